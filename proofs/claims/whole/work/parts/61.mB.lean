section
variable {l : Launch} {dC : Nat → ClassId} {dI : Nat → Nat → Nat} {cI cL cB cZ cT cR : ClassId} {nb : Nat} {adK adV : Nat → Nat}
set_option maxHeartbeats 4000000 in
set_option maxRecDepth 100000 in
theorem metX6_size {h0 r_bytes r_items : Nat} {s_length s_place s_next : Int32}  {k : Int32 → Prop} (hf : pX6_size s_length k) : Met l yX6_size wsX6_size ({ frames := 0, cells := 0, slots := 0, locals := 0 } : Room) (va_Pc [.ref h0] (PW dC dI (TYS cI cL cB cZ cT cR) [(h0, .inr (6, [.ref r_bytes, .ref r_items, .int s_length, .int s_place, .int s_next]))])) (roQi k) 0 0 (fun _ => False) := by
  refine Met.ofW (cc := cX6_size) (maxL := 1) (ret := (some .int)) (by decide) rfl ?_
  intro p e s m args below meth c s₁ B hml hv
  obtain ⟨rfl, hP, hK, hN⟩ := hv
  have C : CX p s m _ meth c cX6_size 1 wsX6_size RX6 (some .int) := ⟨B.exec, B.bytes, hml, findClass_of_methodNamed B.named, atoms_spec (ws := wsX6_size) B.pre, B.returns, B.notSynchronized⟩
  obtain ⟨hx, hb, -, hown, hts, hr, hlocks⟩ := id C
  have hl := lv_entry ([.ref h0]) (n := 1) (Nat.le_of_ble_eq_true rfl)
  rw [lg_entry_eq]
  generalize (lg_sl ([.ref h0]) ++ List.replicate (1 - (lg_sl ([.ref h0])).length) Slot.unset).toArray = ls at hl ⊢
  have hl : lv_has ls 1 [(0, .ref h0)] := hl
  unfold pX6_size at hf
  refine lv_aload_n hx hb dX6_size_0 rfl (lv_at hl 0 rfl) ?_
  refine va_get (D := (dC, dI)) (ci := 6) (v := .int s_length) (C := RX6) (T := TX6) (N := 5) hx hb hts iX6_size_X6 hown hK hP 0 rfl rfl 2 (by decide) (hts _ mX6_size_f24) (fun _ h9 => h9) rfl dX6_size_1 ?_
  exact W.iret (v := s_length) hx hb hr (fun t ht hW => ⟨s_length, rfl, hf, ht⟩) (fun q h => by cases h) dX6_size_4
set_option maxHeartbeats 4000000 in
set_option maxRecDepth 100000 in
theorem metX6_append {h0 r_items h1 : Nat} {s_length s_place s_next : Int32} {s_bytes : Nat → Int32} {a1 : Int32} {sz : Nat} {k : Int32 → (Nat → Int32) → Prop} (hf : pX6_append s_length s_bytes a1 k) : Met l yX6_append wsX6_append ({ frames := 0, cells := 0, slots := 0, locals := 0 } : Room) (va_Pc [.ref h0, .int a1] (PR dC dI (TYS cI cL cB cZ cT cR) [(h0, .inr (6, [.ref h1, .ref r_items, .int s_length, .int s_place, .int s_next])), (h1, .inl (cB, 200, .inl s_bytes))] sz)) (va_Qv (fun (u : Int32 × (Nat → Int32)) => k u.1 u.2) (fun (u : Int32 × (Nat → Int32)) t => va_P (dC, dI) vwCl [(h0, .inr (6, [.ref h1, .ref r_items, .int u.1, .int s_place, .int s_next])), (h1, .inl (cB, 200, .inl u.2))] t.heap ∧ va_D (va_A [(h0, .inr (6, [.ref h1, .ref r_items, .int s_length, .int s_place, .int s_next])), (h1, .inl (cB, 200, .inl s_bytes))] sz) [(h0, .inr (6, [.ref h1, .ref r_items, .int u.1, .int s_place, .int s_next])), (h1, .inl (cB, 200, .inl u.2))]) (va_A [(h0, .inr (6, [.ref h1, .ref r_items, .int s_length, .int s_place, .int s_next])), (h1, .inl (cB, 200, .inl s_bytes))] sz)) 0 0 (va_A [(h0, .inr (6, [.ref h1, .ref r_items, .int s_length, .int s_place, .int s_next])), (h1, .inl (cB, 200, .inl s_bytes))] sz) := by
  refine Met.ofW (cc := cX6_append) (maxL := 2) (ret := none) (by decide) rfl ?_
  intro p e s m args below meth c s₁ B hml hv
  obtain ⟨rfl, hsz, hP, hK, hN, hD0⟩ := hv
  have C : CX p s m _ meth c cX6_append 2 wsX6_append RX6 none := ⟨B.exec, B.bytes, hml, findClass_of_methodNamed B.named, atoms_spec (ws := wsX6_append) B.pre, B.returns, B.notSynchronized⟩
  obtain ⟨hx, hb, -, hown, hts, hr, hlocks⟩ := id C
  subst hsz
  have hD := hD0.self (sz := s.heap.size)
  generalize hAe : va_A [(h0, .inr (6, [.ref h1, .ref r_items, .int s_length, .int s_place, .int s_next])), (h1, .inl (cB, 200, .inl s_bytes))] s.heap.size = A at hD ⊢
  have hA : ∀ q : Nat, s.heap.size ≤ q → A q := fun q h => by rw [← hAe]; exact Or.inr h
  have hS : va_S A s.heap s.heap [] := va_S.rf
  have hl := lv_entry ([.ref h0, .int a1]) (n := 2) (Nat.le_of_ble_eq_true rfl)
  rw [lg_entry_eq]
  generalize (lg_sl ([.ref h0, .int a1]) ++ List.replicate (2 - (lg_sl ([.ref h0, .int a1])).length) Slot.unset).toArray = ls at hl ⊢
  have hl : lv_has ls 2 [(0, .ref h0), (1, .int a1)] := hl
  unfold pX6_append at hf
  obtain ⟨H, hH⟩ : ∃ H, H = s.heap := ⟨_, rfl⟩
  obtain ⟨locs, hlo⟩ : ∃ L : List Loc, L = [] := ⟨_, rfl⟩
  have hS : va_S A s.heap H locs := by rw [hH, hlo]; exact hS
  rw [← hH] at hP
  have hG : W p l e ({ frames := 0, cells := 0, slots := 0, locals := 0 } : Room) s m [.ref h0, .int a1].toArray below meth c H locs 0 0 (MQ below (va_Qv (fun (u : Int32 × (Nat → Int32)) => k u.1 u.2) (fun (u : Int32 × (Nat → Int32)) t => va_P (dC, dI) vwCl [(h0, .inr (6, [.ref h1, .ref r_items, .int u.1, .int s_place, .int s_next])), (h1, .inl (cB, 200, .inl u.2))] t.heap ∧ va_D A [(h0, .inr (6, [.ref h1, .ref r_items, .int u.1, .int s_place, .int s_next])), (h1, .inl (cB, 200, .inl u.2))]) A) [.ref h0, .int a1].toArray s 0 0 A) (F0 m 0 ls []) := by
    clear hlo hH hD0
    refine lv_aload_n hx hb dX6_append_0 rfl (lv_at hl 0 rfl) ?_
    refine va_get (D := (dC, dI)) (ci := 6) (v := .int s_length) (C := RX6) (T := TX6) (N := 5) hx hb hts iX6_append_X6 hown hK hP 0 rfl rfl 2 (by decide) (hts _ mX6_append_f24) (fun _ h9 => h9) rfl dX6_append_1 ?_
    refine lv_if_lt (tgt := 39) hx hb dX6_append_4 (by decide) (fun c_1 => ?_) (fun c_1 => ?_)
    · replace hf := hf.1 c_1
      exact W.vret hx hb hr (fun t ht hW => ⟨⟨(s_length, s_bytes), rfl, hf, by rw [ht]; exact hP, hD⟩, hS.F ht⟩) hS.2.2 dX6_append_39
    · replace hf := hf.2 c_1
      refine lv_aload_n hx hb dX6_append_7 rfl (lv_at hl 0 rfl) ?_
      refine va_get (D := (dC, dI)) (ci := 6) (v := .int s_length) (C := RX6) (T := TX6) (N := 5) hx hb hts iX6_append_X6 hown hK hP 0 rfl rfl 2 (by decide) (hts _ mX6_append_f24) (fun _ h9 => h9) rfl dX6_append_8 ?_
      refine lv_aload_n hx hb dX6_append_11 rfl (lv_at hl 0 rfl) ?_
      refine va_get (D := (dC, dI)) (ci := 6) (v := .ref h1) (C := RX6) (T := TX6) (N := 5) hx hb hts iX6_append_X6 hown hK hP 0 rfl rfl 0 (by decide) (hts _ mX6_append_f9) (fun _ h9 => h9) rfl dX6_append_12 ?_
      refine va_alen (v := (200 : Int32)) hx hb hK hP 1 2 rfl rfl rfl dX6_append_15 ?_
      refine lv_icmp_ge (tgt := 39) hx hb dX6_append_16 (by decide) (fun c_2 => ?_) (fun c_2 => ?_)
      · replace hf := hf.1 c_2
        exact W.vret hx hb hr (fun t ht hW => ⟨⟨(s_length, s_bytes), rfl, hf, by rw [ht]; exact hP, hD⟩, hS.F ht⟩) hS.2.2 dX6_append_39
      · replace hf := hf.2 c_2
        refine lv_aload_n hx hb dX6_append_19 rfl (lv_at hl 0 rfl) ?_
        refine va_get (D := (dC, dI)) (ci := 6) (v := .ref h1) (C := RX6) (T := TX6) (N := 5) hx hb hts iX6_append_X6 hown hK hP 0 rfl rfl 0 (by decide) (hts _ mX6_append_f9) (fun _ h9 => h9) rfl dX6_append_20 ?_
        refine lv_aload_n hx hb dX6_append_23 rfl (lv_at hl 0 rfl) ?_
        refine va_get (D := (dC, dI)) (ci := 6) (v := .int s_length) (C := RX6) (T := TX6) (N := 5) hx hb hts iX6_append_X6 hown hK hP 0 rfl rfl 2 (by decide) (hts _ mX6_append_f24) (fun _ h9 => h9) rfl dX6_append_24 ?_
        refine lv_iload_n hx hb dX6_append_27 rfl (lv_at hl 1 rfl) ?_
        obtain ⟨h_3, hf⟩ := hf
        refine va_bast hx hb hK hP hD hS 1 2 rfl rfl h_3 dX6_append_28 (fun H locs hP hD hS => ?_)
        replace hP : va_P (dC, dI) vwCl [(h0, .inr (6, [.ref h1, .ref r_items, .int s_length, .int s_place, .int s_next])), (h1, .inl (cB, 200, .inl (upd s_bytes s_length.toNatClampNeg (vp_nar .byte a1))))] H := hP
        replace hD : va_D A [(h0, .inr (6, [.ref h1, .ref r_items, .int s_length, .int s_place, .int s_next])), (h1, .inl (cB, 200, .inl (upd s_bytes s_length.toNatClampNeg (vp_nar .byte a1))))] := hD
        refine lv_aload_n hx hb dX6_append_29 rfl (lv_at hl 0 rfl) ?_
        refine lv_dup hx hb dX6_append_30 rfl ?_
        refine va_get (D := (dC, dI)) (ci := 6) (v := .int s_length) (C := RX6) (T := TX6) (N := 5) hx hb hts iX6_append_X6 hown hK hP 0 rfl rfl 2 (by decide) (hts _ mX6_append_f24) (fun _ h9 => h9) rfl dX6_append_31 ?_
        refine lv_iconst (v := (1 : Int32)) hx hb dX6_append_34 (by decide) ?_
        refine lv_iadd hx hb dX6_append_35 ?_
        refine va_put (D := (dC, dI)) (ci := 6) (v := .int (s_length + (1 : Int32))) (ty := .int) (C := RX6) (T := TX6) (N := 5) hx hb hts iX6_append_X6 tyX6 tyX6_ok nmX6 hown hK hP hD hS 0 rfl rfl 2 (by decide) (hts _ mX6_append_f24) (fun _ h9 => h9) rfl (by decide +kernel) rfl rfl (Nat.le_of_ble_eq_true rfl) dX6_append_36 (fun H locs hP hD hS => ?_)
        replace hP : va_P (dC, dI) vwCl [(h0, .inr (6, [.ref h1, .ref r_items, .int (s_length + (1 : Int32)), .int s_place, .int s_next])), (h1, .inl (cB, 200, .inl (upd s_bytes s_length.toNatClampNeg (vp_nar .byte a1))))] H := hP
        replace hD : va_D A [(h0, .inr (6, [.ref h1, .ref r_items, .int (s_length + (1 : Int32)), .int s_place, .int s_next])), (h1, .inl (cB, 200, .inl (upd s_bytes s_length.toNatClampNeg (vp_nar .byte a1))))] := hD
        exact W.vret hx hb hr (fun t ht hW => ⟨⟨((s_length + (1 : Int32)), (upd s_bytes s_length.toNatClampNeg (vp_nar .byte a1))), rfl, hf, by rw [ht]; exact hP, hD⟩, hS.F ht⟩) hS.2.2 dX6_append_39
  rw [hH, hlo] at hG
  exact hG
set_option maxHeartbeats 4000000 in
set_option maxRecDepth 100000 in
theorem metX6_makeEmpty {h0 r_bytes r_items : Nat} {s_length s_place s_next : Int32}  {sz : Nat} {k : Int32 → Int32 → Prop} (hf : pX6_makeEmpty s_length k) : Met l yX6_makeEmpty wsX6_makeEmpty ({ frames := 0, cells := 0, slots := 0, locals := 0 } : Room) (va_Pc [.ref h0] (PR dC dI (TYS cI cL cB cZ cT cR) [(h0, .inr (6, [.ref r_bytes, .ref r_items, .int s_length, .int s_place, .int s_next]))] sz)) (va_Qi (fun (r : Int32) (u : Int32) => k r u) (fun (u : Int32) t => va_P (dC, dI) vwCl [(h0, .inr (6, [.ref r_bytes, .ref r_items, .int u, .int s_place, .int s_next]))] t.heap ∧ va_D (va_A [(h0, .inr (6, [.ref r_bytes, .ref r_items, .int s_length, .int s_place, .int s_next]))] sz) [(h0, .inr (6, [.ref r_bytes, .ref r_items, .int u, .int s_place, .int s_next]))]) (va_A [(h0, .inr (6, [.ref r_bytes, .ref r_items, .int s_length, .int s_place, .int s_next]))] sz)) 0 0 (va_A [(h0, .inr (6, [.ref r_bytes, .ref r_items, .int s_length, .int s_place, .int s_next]))] sz) := by
  refine Met.ofW (cc := cX6_makeEmpty) (maxL := 2) (ret := (some .int)) (by decide) rfl ?_
  intro p e s m args below meth c s₁ B hml hv
  obtain ⟨rfl, hsz, hP, hK, hN, hD0⟩ := hv
  have C : CX p s m _ meth c cX6_makeEmpty 2 wsX6_makeEmpty RX6 (some .int) := ⟨B.exec, B.bytes, hml, findClass_of_methodNamed B.named, atoms_spec (ws := wsX6_makeEmpty) B.pre, B.returns, B.notSynchronized⟩
  obtain ⟨hx, hb, -, hown, hts, hr, hlocks⟩ := id C
  subst hsz
  have hD := hD0.self (sz := s.heap.size)
  generalize hAe : va_A [(h0, .inr (6, [.ref r_bytes, .ref r_items, .int s_length, .int s_place, .int s_next]))] s.heap.size = A at hD ⊢
  have hA : ∀ q : Nat, s.heap.size ≤ q → A q := fun q h => by rw [← hAe]; exact Or.inr h
  have hS : va_S A s.heap s.heap [] := va_S.rf
  have hl := lv_entry ([.ref h0]) (n := 2) (Nat.le_of_ble_eq_true rfl)
  rw [lg_entry_eq]
  generalize (lg_sl ([.ref h0]) ++ List.replicate (2 - (lg_sl ([.ref h0])).length) Slot.unset).toArray = ls at hl ⊢
  have hl : lv_has ls 2 [(0, .ref h0)] := hl
  unfold pX6_makeEmpty at hf
  obtain ⟨H, hH⟩ : ∃ H, H = s.heap := ⟨_, rfl⟩
  obtain ⟨locs, hlo⟩ : ∃ L : List Loc, L = [] := ⟨_, rfl⟩
  have hS : va_S A s.heap H locs := by rw [hH, hlo]; exact hS
  rw [← hH] at hP
  have hG : W p l e ({ frames := 0, cells := 0, slots := 0, locals := 0 } : Room) s m [.ref h0].toArray below meth c H locs 0 0 (MQ below (va_Qi (fun (r : Int32) (u : Int32) => k r u) (fun (u : Int32) t => va_P (dC, dI) vwCl [(h0, .inr (6, [.ref r_bytes, .ref r_items, .int u, .int s_place, .int s_next]))] t.heap ∧ va_D A [(h0, .inr (6, [.ref r_bytes, .ref r_items, .int u, .int s_place, .int s_next]))]) A) [.ref h0].toArray s 0 0 A) (F0 m 0 ls []) := by
    clear hlo hH hD0
    refine lv_aload_n hx hb dX6_makeEmpty_0 rfl (lv_at hl 0 rfl) ?_
    refine va_get (D := (dC, dI)) (ci := 6) (v := .int s_length) (C := RX6) (T := TX6) (N := 5) hx hb hts iX6_makeEmpty_X6 hown hK hP 0 rfl rfl 2 (by decide) (hts _ mX6_makeEmpty_f24) (fun _ h9 => h9) rfl dX6_makeEmpty_1 ?_
    refine lv_istore_n (lv' := [(1, .int s_length), (0, .ref h0)]) hx hb dX6_makeEmpty_4 rfl hl (by decide) rfl (fun ls hl => ?_)
    refine lv_aload_n hx hb dX6_makeEmpty_5 rfl (lv_at hl 1 rfl) ?_
    refine lv_iconst (v := (0 : Int32)) hx hb dX6_makeEmpty_6 (by decide) ?_
    refine va_put (D := (dC, dI)) (ci := 6) (v := .int (0 : Int32)) (ty := .int) (C := RX6) (T := TX6) (N := 5) hx hb hts iX6_makeEmpty_X6 tyX6 tyX6_ok nmX6 hown hK hP hD hS 0 rfl rfl 2 (by decide) (hts _ mX6_makeEmpty_f24) (fun _ h9 => h9) rfl (by decide +kernel) rfl rfl (Nat.le_of_ble_eq_true rfl) dX6_makeEmpty_7 (fun H locs hP hD hS => ?_)
    replace hP : va_P (dC, dI) vwCl [(h0, .inr (6, [.ref r_bytes, .ref r_items, .int (0 : Int32), .int s_place, .int s_next]))] H := hP
    replace hD : va_D A [(h0, .inr (6, [.ref r_bytes, .ref r_items, .int (0 : Int32), .int s_place, .int s_next]))] := hD
    refine lv_iload_n hx hb dX6_makeEmpty_10 rfl (lv_at hl 0 rfl) ?_
    exact W.iret (v := s_length) hx hb hr (fun t ht hW => ⟨⟨s_length, ((0 : Int32)), rfl, hf, by rw [ht]; exact hP, hD⟩, hS.F ht⟩) hS.2.2 dX6_makeEmpty_11
  rw [hH, hlo] at hG
  exact hG
set_option maxHeartbeats 4000000 in
set_option maxRecDepth 100000 in
theorem metX6_byteAt {h0 r_items h1 : Nat} {s_length s_place s_next : Int32} {s_bytes : Nat → Int32} {a1 : Int32} {k : Int32 → Prop} (hf : pX6_byteAt s_bytes a1 k) : Met l yX6_byteAt wsX6_byteAt ({ frames := 0, cells := 0, slots := 0, locals := 0 } : Room) (va_Pc [.ref h0, .int a1] (PW dC dI (TYS cI cL cB cZ cT cR) [(h0, .inr (6, [.ref h1, .ref r_items, .int s_length, .int s_place, .int s_next])), (h1, .inl (cB, 200, .inl s_bytes))])) (roQi k) 0 0 (fun _ => False) := by
  refine Met.ofW (cc := cX6_byteAt) (maxL := 2) (ret := (some .int)) (by decide) rfl ?_
  intro p e s m args below meth c s₁ B hml hv
  obtain ⟨rfl, hP, hK, hN⟩ := hv
  have C : CX p s m _ meth c cX6_byteAt 2 wsX6_byteAt RX6 (some .int) := ⟨B.exec, B.bytes, hml, findClass_of_methodNamed B.named, atoms_spec (ws := wsX6_byteAt) B.pre, B.returns, B.notSynchronized⟩
  obtain ⟨hx, hb, -, hown, hts, hr, hlocks⟩ := id C
  have hl := lv_entry ([.ref h0, .int a1]) (n := 2) (Nat.le_of_ble_eq_true rfl)
  rw [lg_entry_eq]
  generalize (lg_sl ([.ref h0, .int a1]) ++ List.replicate (2 - (lg_sl ([.ref h0, .int a1])).length) Slot.unset).toArray = ls at hl ⊢
  have hl : lv_has ls 2 [(0, .ref h0), (1, .int a1)] := hl
  unfold pX6_byteAt at hf
  refine lv_iload_n hx hb dX6_byteAt_0 rfl (lv_at hl 1 rfl) ?_
  refine lv_if_lt (tgt := 22) hx hb dX6_byteAt_1 (by decide) (fun c_1 => ?_) (fun c_1 => ?_)
  · replace hf := hf.1 c_1
    refine lv_iconst (v := (0 : Int32)) hx hb dX6_byteAt_22 (by decide) ?_
    exact W.iret (v := (0 : Int32)) hx hb hr (fun t ht hW => ⟨(0 : Int32), rfl, hf, ht⟩) (fun q h => by cases h) dX6_byteAt_23
  · replace hf := hf.2 c_1
    refine lv_iload_n hx hb dX6_byteAt_4 rfl (lv_at hl 1 rfl) ?_
    refine lv_aload_n hx hb dX6_byteAt_5 rfl (lv_at hl 0 rfl) ?_
    refine va_get (D := (dC, dI)) (ci := 6) (v := .ref h1) (C := RX6) (T := TX6) (N := 5) hx hb hts iX6_byteAt_X6 hown hK hP 0 rfl rfl 0 (by decide) (hts _ mX6_byteAt_f9) (fun _ h9 => h9) rfl dX6_byteAt_6 ?_
    refine va_alen (v := (200 : Int32)) hx hb hK hP 1 2 rfl rfl rfl dX6_byteAt_9 ?_
    refine lv_icmp_ge (tgt := 22) hx hb dX6_byteAt_10 (by decide) (fun c_2 => ?_) (fun c_2 => ?_)
    · replace hf := hf.1 c_2
      refine lv_iconst (v := (0 : Int32)) hx hb dX6_byteAt_22 (by decide) ?_
      exact W.iret (v := (0 : Int32)) hx hb hr (fun t ht hW => ⟨(0 : Int32), rfl, hf, ht⟩) (fun q h => by cases h) dX6_byteAt_23
    · replace hf := hf.2 c_2
      refine lv_aload_n hx hb dX6_byteAt_13 rfl (lv_at hl 0 rfl) ?_
      refine va_get (D := (dC, dI)) (ci := 6) (v := .ref h1) (C := RX6) (T := TX6) (N := 5) hx hb hts iX6_byteAt_X6 hown hK hP 0 rfl rfl 0 (by decide) (hts _ mX6_byteAt_f9) (fun _ h9 => h9) rfl dX6_byteAt_14 ?_
      refine lv_iload_n hx hb dX6_byteAt_17 rfl (lv_at hl 1 rfl) ?_
      obtain ⟨h_3, hf⟩ := hf
      refine va_bald hx hb hK hP 1 2 rfl rfl h_3 dX6_byteAt_18 ?_
      refine lv_goto (tgt := 23) hx hb dX6_byteAt_19 (by decide) ?_
      exact W.iret (v := (s_bytes a1.toNatClampNeg)) hx hb hr (fun t ht hW => ⟨(s_bytes a1.toNatClampNeg), rfl, hf, ht⟩) (fun q h => by cases h) dX6_byteAt_23
set_option maxHeartbeats 4000000 in
set_option maxRecDepth 100000 in
theorem metX6_isLetter {a0 : Int32} {k : Int32 → Prop} (hf : pX6_isLetter a0 k) : Met l yX6_isLetter wsX6_isLetter ({ frames := 0, cells := 0, slots := 0, locals := 0 } : Room) (va_Pc [.int a0] (PW dC dI (TYS cI cL cB cZ cT cR) [])) (roQi k) 0 0 (fun _ => False) := by
  refine Met.ofW (cc := cX6_isLetter) (maxL := 1) (ret := (some .boolean)) (by decide) rfl ?_
  intro p e s m args below meth c s₁ B hml hv
  obtain ⟨rfl, hP, hK, hN⟩ := hv
  have C : CX p s m _ meth c cX6_isLetter 1 wsX6_isLetter RX6 (some .boolean) := ⟨B.exec, B.bytes, hml, findClass_of_methodNamed B.named, atoms_spec (ws := wsX6_isLetter) B.pre, B.returns, B.notSynchronized⟩
  obtain ⟨hx, hb, -, hown, hts, hr, hlocks⟩ := id C
  have hl := lv_entry ([.int a0]) (n := 1) (Nat.le_of_ble_eq_true rfl)
  rw [lg_entry_eq]
  generalize (lg_sl ([.int a0]) ++ List.replicate (1 - (lg_sl ([.int a0])).length) Slot.unset).toArray = ls at hl ⊢
  have hl : lv_has ls 1 [(0, .int a0)] := hl
  unfold pX6_isLetter at hf
  refine lv_iload_n hx hb dX6_isLetter_0 rfl (lv_at hl 0 rfl) ?_
  refine lv_bipush (v := (97 : Int32)) hx hb dX6_isLetter_1 (by decide) ?_
  refine lv_icmp_lt (tgt := 16) hx hb dX6_isLetter_3 (by decide) (fun c_1 => ?_) (fun c_1 => ?_)
  · replace hf := hf.1 c_1
    refine lv_iconst (v := (0 : Int32)) hx hb dX6_isLetter_16 (by decide) ?_
    exact W.zret (v := (0 : Int32)) hx hb hr rfl (fun t ht hW => ⟨(0 : Int32), rfl, hf, ht⟩) (fun q h => by cases h) dX6_isLetter_17
  · replace hf := hf.2 c_1
    refine lv_iload_n hx hb dX6_isLetter_6 rfl (lv_at hl 0 rfl) ?_
    refine lv_bipush (v := (122 : Int32)) hx hb dX6_isLetter_7 (by decide) ?_
    refine lv_icmp_gt (tgt := 16) hx hb dX6_isLetter_9 (by decide) (fun c_2 => ?_) (fun c_2 => ?_)
    · replace hf := hf.1 c_2
      refine lv_iconst (v := (0 : Int32)) hx hb dX6_isLetter_16 (by decide) ?_
      exact W.zret (v := (0 : Int32)) hx hb hr rfl (fun t ht hW => ⟨(0 : Int32), rfl, hf, ht⟩) (fun q h => by cases h) dX6_isLetter_17
    · replace hf := hf.2 c_2
      refine lv_iconst (v := (1 : Int32)) hx hb dX6_isLetter_12 (by decide) ?_
      refine lv_goto (tgt := 17) hx hb dX6_isLetter_13 (by decide) ?_
      exact W.zret (v := (1 : Int32)) hx hb hr rfl (fun t ht hW => ⟨(1 : Int32), rfl, hf, ht⟩) (fun q h => by cases h) dX6_isLetter_17
set_option maxHeartbeats 4000000 in
set_option maxRecDepth 100000 in
theorem metX6_isFigure {a0 : Int32} {k : Int32 → Prop} (hf : pX6_isFigure a0 k) : Met l yX6_isFigure wsX6_isFigure ({ frames := 0, cells := 0, slots := 0, locals := 0 } : Room) (va_Pc [.int a0] (PW dC dI (TYS cI cL cB cZ cT cR) [])) (roQi k) 0 0 (fun _ => False) := by
  refine Met.ofW (cc := cX6_isFigure) (maxL := 1) (ret := (some .boolean)) (by decide) rfl ?_
  intro p e s m args below meth c s₁ B hml hv
  obtain ⟨rfl, hP, hK, hN⟩ := hv
  have C : CX p s m _ meth c cX6_isFigure 1 wsX6_isFigure RX6 (some .boolean) := ⟨B.exec, B.bytes, hml, findClass_of_methodNamed B.named, atoms_spec (ws := wsX6_isFigure) B.pre, B.returns, B.notSynchronized⟩
  obtain ⟨hx, hb, -, hown, hts, hr, hlocks⟩ := id C
  have hl := lv_entry ([.int a0]) (n := 1) (Nat.le_of_ble_eq_true rfl)
  rw [lg_entry_eq]
  generalize (lg_sl ([.int a0]) ++ List.replicate (1 - (lg_sl ([.int a0])).length) Slot.unset).toArray = ls at hl ⊢
  have hl : lv_has ls 1 [(0, .int a0)] := hl
  unfold pX6_isFigure at hf
  refine lv_iload_n hx hb dX6_isFigure_0 rfl (lv_at hl 0 rfl) ?_
  refine lv_bipush (v := (48 : Int32)) hx hb dX6_isFigure_1 (by decide) ?_
  refine lv_icmp_lt (tgt := 16) hx hb dX6_isFigure_3 (by decide) (fun c_1 => ?_) (fun c_1 => ?_)
  · replace hf := hf.1 c_1
    refine lv_iconst (v := (0 : Int32)) hx hb dX6_isFigure_16 (by decide) ?_
    exact W.zret (v := (0 : Int32)) hx hb hr rfl (fun t ht hW => ⟨(0 : Int32), rfl, hf, ht⟩) (fun q h => by cases h) dX6_isFigure_17
  · replace hf := hf.2 c_1
    refine lv_iload_n hx hb dX6_isFigure_6 rfl (lv_at hl 0 rfl) ?_
    refine lv_bipush (v := (57 : Int32)) hx hb dX6_isFigure_7 (by decide) ?_
    refine lv_icmp_gt (tgt := 16) hx hb dX6_isFigure_9 (by decide) (fun c_2 => ?_) (fun c_2 => ?_)
    · replace hf := hf.1 c_2
      refine lv_iconst (v := (0 : Int32)) hx hb dX6_isFigure_16 (by decide) ?_
      exact W.zret (v := (0 : Int32)) hx hb hr rfl (fun t ht hW => ⟨(0 : Int32), rfl, hf, ht⟩) (fun q h => by cases h) dX6_isFigure_17
    · replace hf := hf.2 c_2
      refine lv_iconst (v := (1 : Int32)) hx hb dX6_isFigure_12 (by decide) ?_
      refine lv_goto (tgt := 17) hx hb dX6_isFigure_13 (by decide) ?_
      exact W.zret (v := (1 : Int32)) hx hb hr rfl (fun t ht hW => ⟨(1 : Int32), rfl, hf, ht⟩) (fun q h => by cases h) dX6_isFigure_17
set_option maxHeartbeats 4000000 in
set_option maxRecDepth 100000 in
theorem wX6_nextToken_8 {p : Program} {e : Env} {s : State} {m : MethodId} {args : Array Value} {below : List Frame} {meth : Method} {c : Code} (C : CX p s m args meth c cX6_nextToken 2 wsX6_nextToken RX6 (some .int)) (hK : va_K (dC, dI) vwCl (TYS cI cL cB cZ cT cR) s) (hN : NW s) {A : Nat → Prop} (hA : ∀ q : Nat, s.heap.size ≤ q → A q) {h0 r_items h1 : Nat} {s_length : Int32} {s_bytes : Nat → Int32} {k : Int32 → Int32 → Int32 → Prop} {kx : Int32 → Int32 → Prop} (hkx : ∀ (s_place : Int32) (s_next : Int32) (H : Heap) (locs : List Loc) (ls : Array Slot), va_P (dC, dI) vwCl [(h0, .inr (6, [.ref h1, .ref r_items, .int s_length, .int s_place, .int s_next])), (h1, .inl (cB, 200, .inl s_bytes))] H → va_D A [(h0, .inr (6, [.ref h1, .ref r_items, .int s_length, .int s_place, .int s_next])), (h1, .inl (cB, 200, .inl s_bytes))] → va_S A s.heap H locs → lv_has ls 2 [(0, .ref h0)] → kx s_place s_next → W p l e ({ frames := 1, cells := 0, slots := 0, locals := 21 } : Room) s m args below meth c H locs 0 0 (MQ below (va_Qi (fun (r : Int32) (u : Int32 × Int32) => k r u.1 u.2) (fun (u : Int32 × Int32) t => va_P (dC, dI) vwCl [(h0, .inr (6, [.ref h1, .ref r_items, .int s_length, .int u.1, .int u.2])), (h1, .inl (cB, 200, .inl s_bytes))] t.heap ∧ va_D A [(h0, .inr (6, [.ref h1, .ref r_items, .int s_length, .int u.1, .int u.2])), (h1, .inl (cB, 200, .inl s_bytes))]) A) args s 0 0 A) (F0 m 45 ls [])) : ∀ (n8 : Nat), ∀ (s_place : Int32) (s_next : Int32) (H : Heap) (locs : List Loc) (ls : Array Slot), va_P (dC, dI) vwCl [(h0, .inr (6, [.ref h1, .ref r_items, .int s_length, .int s_place, .int s_next])), (h1, .inl (cB, 200, .inl s_bytes))] H → va_D A [(h0, .inr (6, [.ref h1, .ref r_items, .int s_length, .int s_place, .int s_next])), (h1, .inl (cB, 200, .inl s_bytes))] → va_S A s.heap H locs → lv_has ls 2 [(0, .ref h0)] → pX6_nextToken_8 s_length s_bytes kx n8 s_place s_next → W p l e ({ frames := 1, cells := 0, slots := 0, locals := 21 } : Room) s m args below meth c H locs 0 0 (MQ below (va_Qi (fun (r : Int32) (u : Int32 × Int32) => k r u.1 u.2) (fun (u : Int32 × Int32) t => va_P (dC, dI) vwCl [(h0, .inr (6, [.ref h1, .ref r_items, .int s_length, .int u.1, .int u.2])), (h1, .inl (cB, 200, .inl s_bytes))] t.heap ∧ va_D A [(h0, .inr (6, [.ref h1, .ref r_items, .int s_length, .int u.1, .int u.2])), (h1, .inl (cB, 200, .inl s_bytes))]) A) args s 0 0 A) (F0 m 8 ls []) := by
  obtain ⟨hx, hb, hml, hown, hts, hr, hlocks⟩ := id C
  intro n8
  induction n8 with
  | zero =>
    intro s_place s_next H locs ls hP hD hS hl hf
    rw [pX6_nextToken_8] at hf
    exact hf.elim
  | succ n8 ih =>
    intro s_place s_next H locs ls hP hD hS hl hf
    rw [pX6_nextToken_8] at hf
    refine lv_aload_n hx hb dX6_nextToken_8 rfl (lv_at hl 0 rfl) ?_
    refine va_get (D := (dC, dI)) (ci := 6) (v := .int s_place) (C := RX6) (T := TX6) (N := 5) hx hb hts iX6_nextToken_X6 hown hK hP 0 rfl rfl 3 (by decide) (hts _ mX6_nextToken_f28) (fun _ h9 => h9) rfl dX6_nextToken_9 ?_
    refine lv_aload_n hx hb dX6_nextToken_12 rfl (lv_at hl 0 rfl) ?_
    refine va_get (D := (dC, dI)) (ci := 6) (v := .int s_length) (C := RX6) (T := TX6) (N := 5) hx hb hts iX6_nextToken_X6 hown hK hP 0 rfl rfl 2 (by decide) (hts _ mX6_nextToken_f24) (fun _ h9 => h9) rfl dX6_nextToken_13 ?_
    refine lv_icmp_ge (tgt := 45) hx hb dX6_nextToken_16 (by decide) (fun c_1 => ?_) (fun c_1 => ?_)
    · replace hf := hf.1 c_1
      exact hkx s_place s_next H locs ls hP hD hS (lv_sub hl [0] rfl) hf
    · replace hf := hf.2 c_1
      refine lv_aload_n hx hb dX6_nextToken_19 rfl (lv_at hl 0 rfl) ?_
      refine lv_aload_n hx hb dX6_nextToken_20 rfl (lv_at hl 0 rfl) ?_
      refine va_get (D := (dC, dI)) (ci := 6) (v := .int s_place) (C := RX6) (T := TX6) (N := 5) hx hb hts iX6_nextToken_X6 hown hK hP 0 rfl rfl 3 (by decide) (hts _ mX6_nextToken_f28) (fun _ h9 => h9) rfl dX6_nextToken_21 ?_
      have hPc := hP.sub (ws' := [(h0, .inr (6, [.ref h1, .ref r_items, .int s_length, .int s_place, .int s_next])), (h1, .inl (cB, 200, .inl s_bytes))]) [0, 1] rfl
      refine ro_calli (va_runV (As := [.int s_place]) (rest := []) ⟨hx, hb, hml, hown, hts⟩ (metX6_byteAt hf) (cwV 1 hts gX6_nextToken_X6_byteAt rfl rfl rfl ⟨rfl, kX6_byteAt⟩ ⟨Nat.le_of_ble_eq_true rfl, Nat.le_of_ble_eq_true rfl⟩) ⟨PW.blind, va_recv hK hPc (ci := 6) (q0 := 0) rfl rfl, fun U hU hW => ⟨rfl, PW.go hU hW hPc hK hN⟩⟩ rfl rfl hl.1 rfl (lv_room (Nat.le_of_ble_eq_true rfl)) dX6_nextToken_24 ⟨Nat.zero_le _, Nat.zero_le _⟩) (fun r_2 hf => ?_)
      refine lv_bipush (v := (32 : Int32)) hx hb dX6_nextToken_27 (by decide) ?_
      refine lv_icmp_ne (tgt := 45) hx hb dX6_nextToken_29 (by decide) (fun c_3 => ?_) (fun c_3 => ?_)
      · replace hf := hf.2 c_3
        exact hkx s_place s_next H locs ls hP hD hS (lv_sub hl [0] rfl) hf
      · replace hf := hf.1 c_3
        refine lv_aload_n hx hb dX6_nextToken_32 rfl (lv_at hl 0 rfl) ?_
        refine lv_dup hx hb dX6_nextToken_33 rfl ?_
        refine va_get (D := (dC, dI)) (ci := 6) (v := .int s_place) (C := RX6) (T := TX6) (N := 5) hx hb hts iX6_nextToken_X6 hown hK hP 0 rfl rfl 3 (by decide) (hts _ mX6_nextToken_f28) (fun _ h9 => h9) rfl dX6_nextToken_34 ?_
        refine lv_iconst (v := (1 : Int32)) hx hb dX6_nextToken_37 (by decide) ?_
        refine lv_iadd hx hb dX6_nextToken_38 ?_
        refine va_put (D := (dC, dI)) (ci := 6) (v := .int (s_place + (1 : Int32))) (ty := .int) (C := RX6) (T := TX6) (N := 5) hx hb hts iX6_nextToken_X6 tyX6 tyX6_ok nmX6 hown hK hP hD hS 0 rfl rfl 3 (by decide) (hts _ mX6_nextToken_f28) (fun _ h9 => h9) rfl (by decide +kernel) rfl rfl (Nat.le_of_ble_eq_true rfl) dX6_nextToken_39 (fun H locs hP hD hS => ?_)
        replace hP : va_P (dC, dI) vwCl [(h0, .inr (6, [.ref h1, .ref r_items, .int s_length, .int (s_place + (1 : Int32)), .int s_next])), (h1, .inl (cB, 200, .inl s_bytes))] H := hP
        replace hD : va_D A [(h0, .inr (6, [.ref h1, .ref r_items, .int s_length, .int (s_place + (1 : Int32)), .int s_next])), (h1, .inl (cB, 200, .inl s_bytes))] := hD
        refine lv_goto (tgt := 8) hx hb dX6_nextToken_42 (by decide) ?_
        exact ih (s_place + (1 : Int32)) s_next H locs ls hP hD hS (lv_sub hl [0] rfl) hf
set_option maxHeartbeats 4000000 in
set_option maxRecDepth 100000 in
theorem wX6_nextToken_131 {p : Program} {e : Env} {s : State} {m : MethodId} {args : Array Value} {below : List Frame} {meth : Method} {c : Code} (C : CX p s m args meth c cX6_nextToken 2 wsX6_nextToken RX6 (some .int)) (hK : va_K (dC, dI) vwCl (TYS cI cL cB cZ cT cR) s) (hN : NW s) {A : Nat → Prop} (hA : ∀ q : Nat, s.heap.size ≤ q → A q) {h0 r_items h1 : Nat} {s_length : Int32} {s_bytes : Nat → Int32} {k : Int32 → Int32 → Int32 → Prop} {kx : Int32 → Int32 → Prop} (hkx : ∀ (s_place : Int32) (s_next : Int32) (H : Heap) (locs : List Loc) (ls : Array Slot), va_P (dC, dI) vwCl [(h0, .inr (6, [.ref h1, .ref r_items, .int s_length, .int s_place, .int s_next])), (h1, .inl (cB, 200, .inl s_bytes))] H → va_D A [(h0, .inr (6, [.ref h1, .ref r_items, .int s_length, .int s_place, .int s_next])), (h1, .inl (cB, 200, .inl s_bytes))] → va_S A s.heap H locs → lv_has ls 2 [(0, .ref h0)] → kx s_place s_next → W p l e ({ frames := 1, cells := 0, slots := 0, locals := 21 } : Room) s m args below meth c H locs 0 0 (MQ below (va_Qi (fun (r : Int32) (u : Int32 × Int32) => k r u.1 u.2) (fun (u : Int32 × Int32) t => va_P (dC, dI) vwCl [(h0, .inr (6, [.ref h1, .ref r_items, .int s_length, .int u.1, .int u.2])), (h1, .inl (cB, 200, .inl s_bytes))] t.heap ∧ va_D A [(h0, .inr (6, [.ref h1, .ref r_items, .int s_length, .int u.1, .int u.2])), (h1, .inl (cB, 200, .inl s_bytes))]) A) args s 0 0 A) (F0 m 169 ls [])) : ∀ (n131 : Nat), ∀ (s_place : Int32) (s_next : Int32) (H : Heap) (locs : List Loc) (ls : Array Slot), va_P (dC, dI) vwCl [(h0, .inr (6, [.ref h1, .ref r_items, .int s_length, .int s_place, .int s_next])), (h1, .inl (cB, 200, .inl s_bytes))] H → va_D A [(h0, .inr (6, [.ref h1, .ref r_items, .int s_length, .int s_place, .int s_next])), (h1, .inl (cB, 200, .inl s_bytes))] → va_S A s.heap H locs → lv_has ls 2 [(0, .ref h0)] → pX6_nextToken_131 s_length s_bytes kx n131 s_place s_next → W p l e ({ frames := 1, cells := 0, slots := 0, locals := 21 } : Room) s m args below meth c H locs 0 0 (MQ below (va_Qi (fun (r : Int32) (u : Int32 × Int32) => k r u.1 u.2) (fun (u : Int32 × Int32) t => va_P (dC, dI) vwCl [(h0, .inr (6, [.ref h1, .ref r_items, .int s_length, .int u.1, .int u.2])), (h1, .inl (cB, 200, .inl s_bytes))] t.heap ∧ va_D A [(h0, .inr (6, [.ref h1, .ref r_items, .int s_length, .int u.1, .int u.2])), (h1, .inl (cB, 200, .inl s_bytes))]) A) args s 0 0 A) (F0 m 131 ls []) := by
  obtain ⟨hx, hb, hml, hown, hts, hr, hlocks⟩ := id C
  intro n131
  induction n131 with
  | zero =>
    intro s_place s_next H locs ls hP hD hS hl hf
    rw [pX6_nextToken_131] at hf
    exact hf.elim
  | succ n131 ih =>
    intro s_place s_next H locs ls hP hD hS hl hf
    rw [pX6_nextToken_131] at hf
    refine lv_aload_n hx hb dX6_nextToken_131 rfl (lv_at hl 0 rfl) ?_
    refine va_get (D := (dC, dI)) (ci := 6) (v := .int s_next) (C := RX6) (T := TX6) (N := 5) hx hb hts iX6_nextToken_X6 hown hK hP 0 rfl rfl 4 (by decide) (hts _ mX6_nextToken_f31) (fun _ h9 => h9) rfl dX6_nextToken_132 ?_
    refine lv_aload_n hx hb dX6_nextToken_135 rfl (lv_at hl 0 rfl) ?_
    refine va_get (D := (dC, dI)) (ci := 6) (v := .int s_length) (C := RX6) (T := TX6) (N := 5) hx hb hts iX6_nextToken_X6 hown hK hP 0 rfl rfl 2 (by decide) (hts _ mX6_nextToken_f24) (fun _ h9 => h9) rfl dX6_nextToken_136 ?_
    refine lv_icmp_ge (tgt := 169) hx hb dX6_nextToken_139 (by decide) (fun c_12 => ?_) (fun c_12 => ?_)
    · replace hf := hf.1 c_12
      exact hkx s_place s_next H locs ls hP hD hS (lv_sub hl [0] rfl) hf
    · replace hf := hf.2 c_12
      refine lv_aload_n hx hb dX6_nextToken_142 rfl (lv_at hl 0 rfl) ?_
      refine lv_aload_n hx hb dX6_nextToken_143 rfl (lv_at hl 0 rfl) ?_
      refine va_get (D := (dC, dI)) (ci := 6) (v := .int s_next) (C := RX6) (T := TX6) (N := 5) hx hb hts iX6_nextToken_X6 hown hK hP 0 rfl rfl 4 (by decide) (hts _ mX6_nextToken_f31) (fun _ h9 => h9) rfl dX6_nextToken_144 ?_
      have hPc := hP.sub (ws' := [(h0, .inr (6, [.ref h1, .ref r_items, .int s_length, .int s_place, .int s_next])), (h1, .inl (cB, 200, .inl s_bytes))]) [0, 1] rfl
      refine ro_calli (va_runV (As := [.int s_next]) (rest := []) ⟨hx, hb, hml, hown, hts⟩ (metX6_byteAt hf) (cwV 1 hts gX6_nextToken_X6_byteAt rfl rfl rfl ⟨rfl, kX6_byteAt⟩ ⟨Nat.le_of_ble_eq_true rfl, Nat.le_of_ble_eq_true rfl⟩) ⟨PW.blind, va_recv hK hPc (ci := 6) (q0 := 0) rfl rfl, fun U hU hW => ⟨rfl, PW.go hU hW hPc hK hN⟩⟩ rfl rfl hl.1 rfl (lv_room (Nat.le_of_ble_eq_true rfl)) dX6_nextToken_147 ⟨Nat.zero_le _, Nat.zero_le _⟩) (fun r_13 hf => ?_)
      have hPc := hP.sub (ws' := []) [] rfl
      refine ro_calli (va_runS (As := [.int r_13]) (rest := []) ⟨hx, hb, hml, hown, hts⟩ (metX6_isFigure hf) (va_cwS 1 hts gX6_nextToken_X6_isFigure rfl rfl rfl kX6_isFigure ⟨Nat.le_of_ble_eq_true rfl, Nat.le_of_ble_eq_true rfl⟩) ⟨PW.blind, fun U hU hW => ⟨rfl, PW.go hU hW hPc hK hN⟩⟩ rfl rfl hl.1 rfl (lv_room (Nat.le_of_ble_eq_true rfl)) dX6_nextToken_150 ⟨Nat.zero_le _, Nat.zero_le _⟩) (fun r_14 hf => ?_)
      refine lv_if_eq (tgt := 169) hx hb dX6_nextToken_153 (by decide) (fun c_15 => ?_) (fun c_15 => ?_)
      · replace hf := hf.1 c_15
        exact hkx s_place s_next H locs ls hP hD hS (lv_sub hl [0] rfl) hf
      · replace hf := hf.2 c_15
        refine lv_aload_n hx hb dX6_nextToken_156 rfl (lv_at hl 0 rfl) ?_
        refine lv_dup hx hb dX6_nextToken_157 rfl ?_
        refine va_get (D := (dC, dI)) (ci := 6) (v := .int s_next) (C := RX6) (T := TX6) (N := 5) hx hb hts iX6_nextToken_X6 hown hK hP 0 rfl rfl 4 (by decide) (hts _ mX6_nextToken_f31) (fun _ h9 => h9) rfl dX6_nextToken_158 ?_
        refine lv_iconst (v := (1 : Int32)) hx hb dX6_nextToken_161 (by decide) ?_
        refine lv_iadd hx hb dX6_nextToken_162 ?_
        refine va_put (D := (dC, dI)) (ci := 6) (v := .int (s_next + (1 : Int32))) (ty := .int) (C := RX6) (T := TX6) (N := 5) hx hb hts iX6_nextToken_X6 tyX6 tyX6_ok nmX6 hown hK hP hD hS 0 rfl rfl 4 (by decide) (hts _ mX6_nextToken_f31) (fun _ h9 => h9) rfl (by decide +kernel) rfl rfl (Nat.le_of_ble_eq_true rfl) dX6_nextToken_163 (fun H locs hP hD hS => ?_)
        replace hP : va_P (dC, dI) vwCl [(h0, .inr (6, [.ref h1, .ref r_items, .int s_length, .int s_place, .int (s_next + (1 : Int32))])), (h1, .inl (cB, 200, .inl s_bytes))] H := hP
        replace hD : va_D A [(h0, .inr (6, [.ref h1, .ref r_items, .int s_length, .int s_place, .int (s_next + (1 : Int32))])), (h1, .inl (cB, 200, .inl s_bytes))] := hD
        refine lv_goto (tgt := 131) hx hb dX6_nextToken_166 (by decide) ?_
        exact ih s_place (s_next + (1 : Int32)) H locs ls hP hD hS (lv_sub hl [0] rfl) hf
set_option maxHeartbeats 4000000 in
set_option maxRecDepth 100000 in
theorem wX6_nextToken_169 {p : Program} {e : Env} {s : State} {m : MethodId} {args : Array Value} {below : List Frame} {meth : Method} {c : Code} (C : CX p s m args meth c cX6_nextToken 2 wsX6_nextToken RX6 (some .int)) (hK : va_K (dC, dI) vwCl (TYS cI cL cB cZ cT cR) s) (hN : NW s) {A : Nat → Prop} (hA : ∀ q : Nat, s.heap.size ≤ q → A q) {h0 r_items h1 : Nat} {s_length : Int32} {s_bytes : Nat → Int32} {k : Int32 → Int32 → Int32 → Prop} : ∀ (s_place : Int32) (s_next : Int32) (H : Heap) (locs : List Loc) (ls : Array Slot), va_P (dC, dI) vwCl [(h0, .inr (6, [.ref h1, .ref r_items, .int s_length, .int s_place, .int s_next])), (h1, .inl (cB, 200, .inl s_bytes))] H → va_D A [(h0, .inr (6, [.ref h1, .ref r_items, .int s_length, .int s_place, .int s_next])), (h1, .inl (cB, 200, .inl s_bytes))] → va_S A s.heap H locs → lv_has ls 2 [(0, .ref h0)] → pX6_nextToken_169 k s_place s_next → W p l e ({ frames := 1, cells := 0, slots := 0, locals := 21 } : Room) s m args below meth c H locs 0 0 (MQ below (va_Qi (fun (r : Int32) (u : Int32 × Int32) => k r u.1 u.2) (fun (u : Int32 × Int32) t => va_P (dC, dI) vwCl [(h0, .inr (6, [.ref h1, .ref r_items, .int s_length, .int u.1, .int u.2])), (h1, .inl (cB, 200, .inl s_bytes))] t.heap ∧ va_D A [(h0, .inr (6, [.ref h1, .ref r_items, .int s_length, .int u.1, .int u.2])), (h1, .inl (cB, 200, .inl s_bytes))]) A) args s 0 0 A) (F0 m 169 ls []) := by
  obtain ⟨hx, hb, hml, hown, hts, hr, hlocks⟩ := id C
  intro s_place s_next H locs ls hP hD hS hl hf
  unfold pX6_nextToken_169 at hf
  refine lv_aload_n hx hb dX6_nextToken_169 rfl (lv_at hl 0 rfl) ?_
  refine va_get (D := (dC, dI)) (ci := 6) (v := .int s_next) (C := RX6) (T := TX6) (N := 5) hx hb hts iX6_nextToken_X6 hown hK hP 0 rfl rfl 4 (by decide) (hts _ mX6_nextToken_f31) (fun _ h9 => h9) rfl dX6_nextToken_170 ?_
  refine lv_aload_n hx hb dX6_nextToken_173 rfl (lv_at hl 0 rfl) ?_
  refine va_get (D := (dC, dI)) (ci := 6) (v := .int s_place) (C := RX6) (T := TX6) (N := 5) hx hb hts iX6_nextToken_X6 hown hK hP 0 rfl rfl 3 (by decide) (hts _ mX6_nextToken_f28) (fun _ h9 => h9) rfl dX6_nextToken_174 ?_
  refine lv_isub hx hb dX6_nextToken_177 ?_
  refine lv_iconst (v := (2 : Int32)) hx hb dX6_nextToken_178 (by decide) ?_
  refine lv_icmp_gt (tgt := 186) hx hb dX6_nextToken_179 (by decide) (fun c_17 => ?_) (fun c_17 => ?_)
  · replace hf := hf.1 c_17
    refine lv_iconst (v := (4 : Int32)) hx hb dX6_nextToken_186 (by decide) ?_
    exact W.iret (v := (4 : Int32)) hx hb hr (fun t ht hW => ⟨⟨(4 : Int32), (s_place, s_next), rfl, hf, by rw [ht]; exact hP, hD⟩, hS.F ht⟩) hS.2.2 dX6_nextToken_187
  · replace hf := hf.2 c_17
    refine lv_iconst (v := (2 : Int32)) hx hb dX6_nextToken_182 (by decide) ?_
    refine lv_goto (tgt := 187) hx hb dX6_nextToken_183 (by decide) ?_
    exact W.iret (v := (2 : Int32)) hx hb hr (fun t ht hW => ⟨⟨(2 : Int32), (s_place, s_next), rfl, hf, by rw [ht]; exact hP, hD⟩, hS.F ht⟩) hS.2.2 dX6_nextToken_187
set_option maxHeartbeats 4000000 in
set_option maxRecDepth 100000 in
theorem wX6_nextToken_84 {p : Program} {e : Env} {s : State} {m : MethodId} {args : Array Value} {below : List Frame} {meth : Method} {c : Code} (C : CX p s m args meth c cX6_nextToken 2 wsX6_nextToken RX6 (some .int)) (hK : va_K (dC, dI) vwCl (TYS cI cL cB cZ cT cR) s) (hN : NW s) {A : Nat → Prop} (hA : ∀ q : Nat, s.heap.size ≤ q → A q) {h0 r_items h1 : Nat} {s_length : Int32} {s_bytes : Nat → Int32} {k : Int32 → Int32 → Int32 → Prop} {kx : Int32 → Int32 → Prop} (hkx : ∀ (s_place : Int32) (s_next : Int32) (H : Heap) (locs : List Loc) (ls : Array Slot), va_P (dC, dI) vwCl [(h0, .inr (6, [.ref h1, .ref r_items, .int s_length, .int s_place, .int s_next])), (h1, .inl (cB, 200, .inl s_bytes))] H → va_D A [(h0, .inr (6, [.ref h1, .ref r_items, .int s_length, .int s_place, .int s_next])), (h1, .inl (cB, 200, .inl s_bytes))] → va_S A s.heap H locs → lv_has ls 2 [(0, .ref h0)] → kx s_place s_next → W p l e ({ frames := 1, cells := 0, slots := 0, locals := 21 } : Room) s m args below meth c H locs 0 0 (MQ below (va_Qi (fun (r : Int32) (u : Int32 × Int32) => k r u.1 u.2) (fun (u : Int32 × Int32) t => va_P (dC, dI) vwCl [(h0, .inr (6, [.ref h1, .ref r_items, .int s_length, .int u.1, .int u.2])), (h1, .inl (cB, 200, .inl s_bytes))] t.heap ∧ va_D A [(h0, .inr (6, [.ref h1, .ref r_items, .int s_length, .int u.1, .int u.2])), (h1, .inl (cB, 200, .inl s_bytes))]) A) args s 0 0 A) (F0 m 122 ls [])) : ∀ (n84 : Nat), ∀ (s_place : Int32) (s_next : Int32) (H : Heap) (locs : List Loc) (ls : Array Slot), va_P (dC, dI) vwCl [(h0, .inr (6, [.ref h1, .ref r_items, .int s_length, .int s_place, .int s_next])), (h1, .inl (cB, 200, .inl s_bytes))] H → va_D A [(h0, .inr (6, [.ref h1, .ref r_items, .int s_length, .int s_place, .int s_next])), (h1, .inl (cB, 200, .inl s_bytes))] → va_S A s.heap H locs → lv_has ls 2 [(0, .ref h0)] → pX6_nextToken_84 s_length s_bytes kx n84 s_place s_next → W p l e ({ frames := 1, cells := 0, slots := 0, locals := 21 } : Room) s m args below meth c H locs 0 0 (MQ below (va_Qi (fun (r : Int32) (u : Int32 × Int32) => k r u.1 u.2) (fun (u : Int32 × Int32) t => va_P (dC, dI) vwCl [(h0, .inr (6, [.ref h1, .ref r_items, .int s_length, .int u.1, .int u.2])), (h1, .inl (cB, 200, .inl s_bytes))] t.heap ∧ va_D A [(h0, .inr (6, [.ref h1, .ref r_items, .int s_length, .int u.1, .int u.2])), (h1, .inl (cB, 200, .inl s_bytes))]) A) args s 0 0 A) (F0 m 84 ls []) := by
  obtain ⟨hx, hb, hml, hown, hts, hr, hlocks⟩ := id C
  intro n84
  induction n84 with
  | zero =>
    intro s_place s_next H locs ls hP hD hS hl hf
    rw [pX6_nextToken_84] at hf
    exact hf.elim
  | succ n84 ih =>
    intro s_place s_next H locs ls hP hD hS hl hf
    rw [pX6_nextToken_84] at hf
    refine lv_aload_n hx hb dX6_nextToken_84 rfl (lv_at hl 0 rfl) ?_
    refine va_get (D := (dC, dI)) (ci := 6) (v := .int s_next) (C := RX6) (T := TX6) (N := 5) hx hb hts iX6_nextToken_X6 hown hK hP 0 rfl rfl 4 (by decide) (hts _ mX6_nextToken_f31) (fun _ h9 => h9) rfl dX6_nextToken_85 ?_
    refine lv_aload_n hx hb dX6_nextToken_88 rfl (lv_at hl 0 rfl) ?_
    refine va_get (D := (dC, dI)) (ci := 6) (v := .int s_length) (C := RX6) (T := TX6) (N := 5) hx hb hts iX6_nextToken_X6 hown hK hP 0 rfl rfl 2 (by decide) (hts _ mX6_nextToken_f24) (fun _ h9 => h9) rfl dX6_nextToken_89 ?_
    refine lv_icmp_ge (tgt := 122) hx hb dX6_nextToken_92 (by decide) (fun c_18 => ?_) (fun c_18 => ?_)
    · replace hf := hf.1 c_18
      exact hkx s_place s_next H locs ls hP hD hS (lv_sub hl [0] rfl) hf
    · replace hf := hf.2 c_18
      refine lv_aload_n hx hb dX6_nextToken_95 rfl (lv_at hl 0 rfl) ?_
      refine lv_aload_n hx hb dX6_nextToken_96 rfl (lv_at hl 0 rfl) ?_
      refine va_get (D := (dC, dI)) (ci := 6) (v := .int s_next) (C := RX6) (T := TX6) (N := 5) hx hb hts iX6_nextToken_X6 hown hK hP 0 rfl rfl 4 (by decide) (hts _ mX6_nextToken_f31) (fun _ h9 => h9) rfl dX6_nextToken_97 ?_
      have hPc := hP.sub (ws' := [(h0, .inr (6, [.ref h1, .ref r_items, .int s_length, .int s_place, .int s_next])), (h1, .inl (cB, 200, .inl s_bytes))]) [0, 1] rfl
      refine ro_calli (va_runV (As := [.int s_next]) (rest := []) ⟨hx, hb, hml, hown, hts⟩ (metX6_byteAt hf) (cwV 1 hts gX6_nextToken_X6_byteAt rfl rfl rfl ⟨rfl, kX6_byteAt⟩ ⟨Nat.le_of_ble_eq_true rfl, Nat.le_of_ble_eq_true rfl⟩) ⟨PW.blind, va_recv hK hPc (ci := 6) (q0 := 0) rfl rfl, fun U hU hW => ⟨rfl, PW.go hU hW hPc hK hN⟩⟩ rfl rfl hl.1 rfl (lv_room (Nat.le_of_ble_eq_true rfl)) dX6_nextToken_100 ⟨Nat.zero_le _, Nat.zero_le _⟩) (fun r_19 hf => ?_)
      have hPc := hP.sub (ws' := []) [] rfl
      refine ro_calli (va_runS (As := [.int r_19]) (rest := []) ⟨hx, hb, hml, hown, hts⟩ (metX6_isLetter hf) (va_cwS 1 hts gX6_nextToken_X6_isLetter rfl rfl rfl kX6_isLetter ⟨Nat.le_of_ble_eq_true rfl, Nat.le_of_ble_eq_true rfl⟩) ⟨PW.blind, fun U hU hW => ⟨rfl, PW.go hU hW hPc hK hN⟩⟩ rfl rfl hl.1 rfl (lv_room (Nat.le_of_ble_eq_true rfl)) dX6_nextToken_103 ⟨Nat.zero_le _, Nat.zero_le _⟩) (fun r_20 hf => ?_)
      refine lv_if_eq (tgt := 122) hx hb dX6_nextToken_106 (by decide) (fun c_21 => ?_) (fun c_21 => ?_)
      · replace hf := hf.1 c_21
        exact hkx s_place s_next H locs ls hP hD hS (lv_sub hl [0] rfl) hf
      · replace hf := hf.2 c_21
        refine lv_aload_n hx hb dX6_nextToken_109 rfl (lv_at hl 0 rfl) ?_
        refine lv_dup hx hb dX6_nextToken_110 rfl ?_
        refine va_get (D := (dC, dI)) (ci := 6) (v := .int s_next) (C := RX6) (T := TX6) (N := 5) hx hb hts iX6_nextToken_X6 hown hK hP 0 rfl rfl 4 (by decide) (hts _ mX6_nextToken_f31) (fun _ h9 => h9) rfl dX6_nextToken_111 ?_
        refine lv_iconst (v := (1 : Int32)) hx hb dX6_nextToken_114 (by decide) ?_
        refine lv_iadd hx hb dX6_nextToken_115 ?_
        refine va_put (D := (dC, dI)) (ci := 6) (v := .int (s_next + (1 : Int32))) (ty := .int) (C := RX6) (T := TX6) (N := 5) hx hb hts iX6_nextToken_X6 tyX6 tyX6_ok nmX6 hown hK hP hD hS 0 rfl rfl 4 (by decide) (hts _ mX6_nextToken_f31) (fun _ h9 => h9) rfl (by decide +kernel) rfl rfl (Nat.le_of_ble_eq_true rfl) dX6_nextToken_116 (fun H locs hP hD hS => ?_)
        replace hP : va_P (dC, dI) vwCl [(h0, .inr (6, [.ref h1, .ref r_items, .int s_length, .int s_place, .int (s_next + (1 : Int32))])), (h1, .inl (cB, 200, .inl s_bytes))] H := hP
        replace hD : va_D A [(h0, .inr (6, [.ref h1, .ref r_items, .int s_length, .int s_place, .int (s_next + (1 : Int32))])), (h1, .inl (cB, 200, .inl s_bytes))] := hD
        refine lv_goto (tgt := 84) hx hb dX6_nextToken_119 (by decide) ?_
        exact ih s_place (s_next + (1 : Int32)) H locs ls hP hD hS (lv_sub hl [0] rfl) hf
set_option maxHeartbeats 4000000 in
set_option maxRecDepth 100000 in
theorem wX6_nextToken_45 {p : Program} {e : Env} {s : State} {m : MethodId} {args : Array Value} {below : List Frame} {meth : Method} {c : Code} (C : CX p s m args meth c cX6_nextToken 2 wsX6_nextToken RX6 (some .int)) (hK : va_K (dC, dI) vwCl (TYS cI cL cB cZ cT cR) s) (hN : NW s) {A : Nat → Prop} (hA : ∀ q : Nat, s.heap.size ≤ q → A q) {h0 r_items h1 : Nat} {s_length : Int32} {s_bytes : Nat → Int32} {k : Int32 → Int32 → Int32 → Prop} : ∀ (s_place : Int32) (s_next : Int32) (H : Heap) (locs : List Loc) (ls : Array Slot), va_P (dC, dI) vwCl [(h0, .inr (6, [.ref h1, .ref r_items, .int s_length, .int s_place, .int s_next])), (h1, .inl (cB, 200, .inl s_bytes))] H → va_D A [(h0, .inr (6, [.ref h1, .ref r_items, .int s_length, .int s_place, .int s_next])), (h1, .inl (cB, 200, .inl s_bytes))] → va_S A s.heap H locs → lv_has ls 2 [(0, .ref h0)] → pX6_nextToken_45 s_length s_bytes k s_place s_next → W p l e ({ frames := 1, cells := 0, slots := 0, locals := 21 } : Room) s m args below meth c H locs 0 0 (MQ below (va_Qi (fun (r : Int32) (u : Int32 × Int32) => k r u.1 u.2) (fun (u : Int32 × Int32) t => va_P (dC, dI) vwCl [(h0, .inr (6, [.ref h1, .ref r_items, .int s_length, .int u.1, .int u.2])), (h1, .inl (cB, 200, .inl s_bytes))] t.heap ∧ va_D A [(h0, .inr (6, [.ref h1, .ref r_items, .int s_length, .int u.1, .int u.2])), (h1, .inl (cB, 200, .inl s_bytes))]) A) args s 0 0 A) (F0 m 45 ls []) := by
  obtain ⟨hx, hb, hml, hown, hts, hr, hlocks⟩ := id C
  intro s_place s_next H locs ls hP hD hS hl hf
  unfold pX6_nextToken_45 at hf
  refine lv_aload_n hx hb dX6_nextToken_45 rfl (lv_at hl 0 rfl) ?_
  refine lv_aload_n hx hb dX6_nextToken_46 rfl (lv_at hl 0 rfl) ?_
  refine va_get (D := (dC, dI)) (ci := 6) (v := .int s_place) (C := RX6) (T := TX6) (N := 5) hx hb hts iX6_nextToken_X6 hown hK hP 0 rfl rfl 3 (by decide) (hts _ mX6_nextToken_f28) (fun _ h9 => h9) rfl dX6_nextToken_47 ?_
  refine lv_iconst (v := (1 : Int32)) hx hb dX6_nextToken_50 (by decide) ?_
  refine lv_iadd hx hb dX6_nextToken_51 ?_
  refine va_put (D := (dC, dI)) (ci := 6) (v := .int (s_place + (1 : Int32))) (ty := .int) (C := RX6) (T := TX6) (N := 5) hx hb hts iX6_nextToken_X6 tyX6 tyX6_ok nmX6 hown hK hP hD hS 0 rfl rfl 4 (by decide) (hts _ mX6_nextToken_f31) (fun _ h9 => h9) rfl (by decide +kernel) rfl rfl (Nat.le_of_ble_eq_true rfl) dX6_nextToken_52 (fun H locs hP hD hS => ?_)
  replace hP : va_P (dC, dI) vwCl [(h0, .inr (6, [.ref h1, .ref r_items, .int s_length, .int s_place, .int (s_place + (1 : Int32))])), (h1, .inl (cB, 200, .inl s_bytes))] H := hP
  replace hD : va_D A [(h0, .inr (6, [.ref h1, .ref r_items, .int s_length, .int s_place, .int (s_place + (1 : Int32))])), (h1, .inl (cB, 200, .inl s_bytes))] := hD
  refine lv_aload_n hx hb dX6_nextToken_55 rfl (lv_at hl 0 rfl) ?_
  refine va_get (D := (dC, dI)) (ci := 6) (v := .int s_place) (C := RX6) (T := TX6) (N := 5) hx hb hts iX6_nextToken_X6 hown hK hP 0 rfl rfl 3 (by decide) (hts _ mX6_nextToken_f28) (fun _ h9 => h9) rfl dX6_nextToken_56 ?_
  refine lv_aload_n hx hb dX6_nextToken_59 rfl (lv_at hl 0 rfl) ?_
  refine va_get (D := (dC, dI)) (ci := 6) (v := .int s_length) (C := RX6) (T := TX6) (N := 5) hx hb hts iX6_nextToken_X6 hown hK hP 0 rfl rfl 2 (by decide) (hts _ mX6_nextToken_f24) (fun _ h9 => h9) rfl dX6_nextToken_60 ?_
  refine lv_icmp_lt (tgt := 68) hx hb dX6_nextToken_63 (by decide) (fun c_5 => ?_) (fun c_5 => ?_)
  · replace hf := hf.1 c_5
    refine lv_aload_n hx hb dX6_nextToken_68 rfl (lv_at hl 0 rfl) ?_
    refine lv_aload_n hx hb dX6_nextToken_69 rfl (lv_at hl 0 rfl) ?_
    refine va_get (D := (dC, dI)) (ci := 6) (v := .int s_place) (C := RX6) (T := TX6) (N := 5) hx hb hts iX6_nextToken_X6 hown hK hP 0 rfl rfl 3 (by decide) (hts _ mX6_nextToken_f28) (fun _ h9 => h9) rfl dX6_nextToken_70 ?_
    have hPc := hP.sub (ws' := [(h0, .inr (6, [.ref h1, .ref r_items, .int s_length, .int s_place, .int (s_place + (1 : Int32))])), (h1, .inl (cB, 200, .inl s_bytes))]) [0, 1] rfl
    refine ro_calli (va_runV (As := [.int s_place]) (rest := []) ⟨hx, hb, hml, hown, hts⟩ (metX6_byteAt hf) (cwV 1 hts gX6_nextToken_X6_byteAt rfl rfl rfl ⟨rfl, kX6_byteAt⟩ ⟨Nat.le_of_ble_eq_true rfl, Nat.le_of_ble_eq_true rfl⟩) ⟨PW.blind, va_recv hK hPc (ci := 6) (q0 := 0) rfl rfl, fun U hU hW => ⟨rfl, PW.go hU hW hPc hK hN⟩⟩ rfl rfl hl.1 rfl (lv_room (Nat.le_of_ble_eq_true rfl)) dX6_nextToken_73 ⟨Nat.zero_le _, Nat.zero_le _⟩) (fun r_6 hf => ?_)
    refine lv_istore_n (lv' := [(1, .int r_6), (0, .ref h0)]) hx hb dX6_nextToken_76 rfl hl (by decide) rfl (fun ls hl => ?_)
    refine lv_iload_n hx hb dX6_nextToken_77 rfl (lv_at hl 0 rfl) ?_
    have hPc := hP.sub (ws' := []) [] rfl
    refine ro_calli (va_runS (As := [.int r_6]) (rest := []) ⟨hx, hb, hml, hown, hts⟩ (metX6_isLetter hf) (va_cwS 1 hts gX6_nextToken_X6_isLetter rfl rfl rfl kX6_isLetter ⟨Nat.le_of_ble_eq_true rfl, Nat.le_of_ble_eq_true rfl⟩) ⟨PW.blind, fun U hU hW => ⟨rfl, PW.go hU hW hPc hK hN⟩⟩ rfl rfl hl.1 rfl (lv_room (Nat.le_of_ble_eq_true rfl)) dX6_nextToken_78 ⟨Nat.zero_le _, Nat.zero_le _⟩) (fun r_7 hf => ?_)
    refine lv_if_eq (tgt := 124) hx hb dX6_nextToken_81 (by decide) (fun c_8 => ?_) (fun c_8 => ?_)
    · replace hf := hf.1 c_8
      refine lv_iload_n hx hb dX6_nextToken_124 rfl (lv_at hl 0 rfl) ?_
      have hPc := hP.sub (ws' := []) [] rfl
      refine ro_calli (va_runS (As := [.int r_6]) (rest := []) ⟨hx, hb, hml, hown, hts⟩ (metX6_isFigure hf) (va_cwS 1 hts gX6_nextToken_X6_isFigure rfl rfl rfl kX6_isFigure ⟨Nat.le_of_ble_eq_true rfl, Nat.le_of_ble_eq_true rfl⟩) ⟨PW.blind, fun U hU hW => ⟨rfl, PW.go hU hW hPc hK hN⟩⟩ rfl rfl hl.1 rfl (lv_room (Nat.le_of_ble_eq_true rfl)) dX6_nextToken_125 ⟨Nat.zero_le _, Nat.zero_le _⟩) (fun r_9 hf => ?_)
      refine lv_if_eq (tgt := 188) hx hb dX6_nextToken_128 (by decide) (fun c_10 => ?_) (fun c_10 => ?_)
      · replace hf := hf.1 c_10
        refine lv_iload_n hx hb dX6_nextToken_188 rfl (lv_at hl 0 rfl) ?_
        refine lv_bipush (v := (59 : Int32)) hx hb dX6_nextToken_189 (by decide) ?_
        refine lv_icmp_ne (tgt := 198) hx hb dX6_nextToken_191 (by decide) (fun c_11 => ?_) (fun c_11 => ?_)
        · replace hf := hf.2 c_11
          refine lv_iconst (v := (4 : Int32)) hx hb dX6_nextToken_198 (by decide) ?_
          exact W.iret (v := (4 : Int32)) hx hb hr (fun t ht hW => ⟨⟨(4 : Int32), (s_place, (s_place + (1 : Int32))), rfl, hf, by rw [ht]; exact hP, hD⟩, hS.F ht⟩) hS.2.2 dX6_nextToken_199
        · replace hf := hf.1 c_11
          refine lv_iconst (v := (3 : Int32)) hx hb dX6_nextToken_194 (by decide) ?_
          refine lv_goto (tgt := 199) hx hb dX6_nextToken_195 (by decide) ?_
          exact W.iret (v := (3 : Int32)) hx hb hr (fun t ht hW => ⟨⟨(3 : Int32), (s_place, (s_place + (1 : Int32))), rfl, hf, by rw [ht]; exact hP, hD⟩, hS.F ht⟩) hS.2.2 dX6_nextToken_199
      · replace hf := hf.2 c_10
        obtain ⟨n131, hf⟩ := hf
        refine wX6_nextToken_131 C hK hN hA (fun s_place_16 s_next_16 H locs ls hP hD hS hl hf => ?_) n131 s_place (s_place + (1 : Int32)) H locs ls hP hD hS (lv_sub hl [1] rfl) hf
        exact wX6_nextToken_169 C hK hN hA s_place_16 s_next_16 H locs ls hP hD hS (lv_sub hl [0] rfl) hf
    · replace hf := hf.2 c_8
      obtain ⟨n84, hf⟩ := hf
      refine wX6_nextToken_84 C hK hN hA (fun s_place_22 s_next_22 H locs ls hP hD hS hl hf => ?_) n84 s_place (s_place + (1 : Int32)) H locs ls hP hD hS (lv_sub hl [1] rfl) hf
      refine lv_iconst (v := (1 : Int32)) hx hb dX6_nextToken_122 (by decide) ?_
      exact W.iret (v := (1 : Int32)) hx hb hr (fun t ht hW => ⟨⟨(1 : Int32), (s_place_22, s_next_22), rfl, hf, by rw [ht]; exact hP, hD⟩, hS.F ht⟩) hS.2.2 dX6_nextToken_123
  · replace hf := hf.2 c_5
    refine lv_iconst (v := (0 : Int32)) hx hb dX6_nextToken_66 (by decide) ?_
    exact W.iret (v := (0 : Int32)) hx hb hr (fun t ht hW => ⟨⟨(0 : Int32), (s_place, (s_place + (1 : Int32))), rfl, hf, by rw [ht]; exact hP, hD⟩, hS.F ht⟩) hS.2.2 dX6_nextToken_67
set_option maxHeartbeats 4000000 in
set_option maxRecDepth 100000 in
theorem metX6_nextToken {h0 r_items h1 : Nat} {s_length s_place s_next : Int32} {s_bytes : Nat → Int32}  {sz : Nat} {k : Int32 → Int32 → Int32 → Prop} (hf : pX6_nextToken s_length s_place s_next s_bytes k) : Met l yX6_nextToken wsX6_nextToken ({ frames := 1, cells := 0, slots := 0, locals := 21 } : Room) (va_Pc [.ref h0] (PR dC dI (TYS cI cL cB cZ cT cR) [(h0, .inr (6, [.ref h1, .ref r_items, .int s_length, .int s_place, .int s_next])), (h1, .inl (cB, 200, .inl s_bytes))] sz)) (va_Qi (fun (r : Int32) (u : Int32 × Int32) => k r u.1 u.2) (fun (u : Int32 × Int32) t => va_P (dC, dI) vwCl [(h0, .inr (6, [.ref h1, .ref r_items, .int s_length, .int u.1, .int u.2])), (h1, .inl (cB, 200, .inl s_bytes))] t.heap ∧ va_D (va_A [(h0, .inr (6, [.ref h1, .ref r_items, .int s_length, .int s_place, .int s_next])), (h1, .inl (cB, 200, .inl s_bytes))] sz) [(h0, .inr (6, [.ref h1, .ref r_items, .int s_length, .int u.1, .int u.2])), (h1, .inl (cB, 200, .inl s_bytes))]) (va_A [(h0, .inr (6, [.ref h1, .ref r_items, .int s_length, .int s_place, .int s_next])), (h1, .inl (cB, 200, .inl s_bytes))] sz)) 0 0 (va_A [(h0, .inr (6, [.ref h1, .ref r_items, .int s_length, .int s_place, .int s_next])), (h1, .inl (cB, 200, .inl s_bytes))] sz) := by
  refine Met.ofW (cc := cX6_nextToken) (maxL := 2) (ret := (some .int)) (by decide) rfl ?_
  intro p e s m args below meth c s₁ B hml hv
  obtain ⟨rfl, hsz, hP, hK, hN, hD0⟩ := hv
  have C : CX p s m _ meth c cX6_nextToken 2 wsX6_nextToken RX6 (some .int) := ⟨B.exec, B.bytes, hml, findClass_of_methodNamed B.named, atoms_spec (ws := wsX6_nextToken) B.pre, B.returns, B.notSynchronized⟩
  obtain ⟨hx, hb, -, hown, hts, hr, hlocks⟩ := id C
  subst hsz
  have hD := hD0.self (sz := s.heap.size)
  generalize hAe : va_A [(h0, .inr (6, [.ref h1, .ref r_items, .int s_length, .int s_place, .int s_next])), (h1, .inl (cB, 200, .inl s_bytes))] s.heap.size = A at hD ⊢
  have hA : ∀ q : Nat, s.heap.size ≤ q → A q := fun q h => by rw [← hAe]; exact Or.inr h
  have hS : va_S A s.heap s.heap [] := va_S.rf
  have hl := lv_entry ([.ref h0]) (n := 2) (Nat.le_of_ble_eq_true rfl)
  rw [lg_entry_eq]
  generalize (lg_sl ([.ref h0]) ++ List.replicate (2 - (lg_sl ([.ref h0])).length) Slot.unset).toArray = ls at hl ⊢
  have hl : lv_has ls 2 [(0, .ref h0)] := hl
  unfold pX6_nextToken at hf
  obtain ⟨H, hH⟩ : ∃ H, H = s.heap := ⟨_, rfl⟩
  obtain ⟨locs, hlo⟩ : ∃ L : List Loc, L = [] := ⟨_, rfl⟩
  have hS : va_S A s.heap H locs := by rw [hH, hlo]; exact hS
  rw [← hH] at hP
  have hG : W p l e ({ frames := 1, cells := 0, slots := 0, locals := 21 } : Room) s m [.ref h0].toArray below meth c H locs 0 0 (MQ below (va_Qi (fun (r : Int32) (u : Int32 × Int32) => k r u.1 u.2) (fun (u : Int32 × Int32) t => va_P (dC, dI) vwCl [(h0, .inr (6, [.ref h1, .ref r_items, .int s_length, .int u.1, .int u.2])), (h1, .inl (cB, 200, .inl s_bytes))] t.heap ∧ va_D A [(h0, .inr (6, [.ref h1, .ref r_items, .int s_length, .int u.1, .int u.2])), (h1, .inl (cB, 200, .inl s_bytes))]) A) [.ref h0].toArray s 0 0 A) (F0 m 0 ls []) := by
    clear hlo hH hD0
    refine lv_aload_n hx hb dX6_nextToken_0 rfl (lv_at hl 0 rfl) ?_
    refine lv_aload_n hx hb dX6_nextToken_1 rfl (lv_at hl 0 rfl) ?_
    refine va_get (D := (dC, dI)) (ci := 6) (v := .int s_next) (C := RX6) (T := TX6) (N := 5) hx hb hts iX6_nextToken_X6 hown hK hP 0 rfl rfl 4 (by decide) (hts _ mX6_nextToken_f31) (fun _ h9 => h9) rfl dX6_nextToken_2 ?_
    refine va_put (D := (dC, dI)) (ci := 6) (v := .int s_next) (ty := .int) (C := RX6) (T := TX6) (N := 5) hx hb hts iX6_nextToken_X6 tyX6 tyX6_ok nmX6 hown hK hP hD hS 0 rfl rfl 3 (by decide) (hts _ mX6_nextToken_f28) (fun _ h9 => h9) rfl (by decide +kernel) rfl rfl (Nat.le_of_ble_eq_true rfl) dX6_nextToken_5 (fun H locs hP hD hS => ?_)
    replace hP : va_P (dC, dI) vwCl [(h0, .inr (6, [.ref h1, .ref r_items, .int s_length, .int s_next, .int s_next])), (h1, .inl (cB, 200, .inl s_bytes))] H := hP
    replace hD : va_D A [(h0, .inr (6, [.ref h1, .ref r_items, .int s_length, .int s_next, .int s_next])), (h1, .inl (cB, 200, .inl s_bytes))] := hD
    obtain ⟨n8, hf⟩ := hf
    refine wX6_nextToken_8 C hK hN hA (fun s_place_4 s_next_4 H locs ls hP hD hS hl hf => ?_) n8 s_next s_next H locs ls hP hD hS (lv_sub hl [0] rfl) hf
    exact wX6_nextToken_45 C hK hN hA s_place_4 s_next_4 H locs ls hP hD hS (lv_sub hl [0] rfl) hf
  rw [hH, hlo] at hG
  exact hG
set_option maxHeartbeats 4000000 in
set_option maxRecDepth 100000 in
theorem wX6_isAtHand_20 {p : Program} {e : Env} {s : State} {m : MethodId} {args : Array Value} {below : List Frame} {meth : Method} {c : Code} {h0 h1 r_items : Nat} {s_length s_place s_next : Int32} {s_bytes : Nat → Int32} (C : CX p s m args meth c cX6_isAtHand 3 wsX6_isAtHand RX6 (some .boolean)) (hK : va_K (dC, dI) vwCl (TYS cI cL cB cZ cT cR) s) (hN : NW s) (hSF : SF nb adK adV s s.heap) (hP : va_P (dC, dI) vwCl [(h0, .inr (6, [.ref h1, .ref r_items, .int s_length, .int s_place, .int s_next])), (h1, .inl (cB, 200, .inl s_bytes))] s.heap) {i : Nat} (hi : i < 6) {k : Int32 → Prop} : ∀ (n20 : Nat), ∀ (x2 : Int32) (ls : Array Slot), lv_has ls 3 [(0, .ref h0), (1, .ref (adK i)), (2, .int x2)] → pX6_isAtHand_20 s_bytes s_place i k n20 x2 → W p l e ({ frames := 4, cells := 0, slots := 0, locals := 85 } : Room) s m args below meth c s.heap [] 0 0 (MQ below (roQi k) args s 0 0 (fun _ => False)) (F0 m 20 ls []) := by
  obtain ⟨hx, hb, hml, hown, hts, hr, hlocks⟩ := id C
  have hSS : va_S (fun q => nb ≤ q) s.heap s.heap [] := va_S.rf
  intro n20
  induction n20 with
  | zero =>
    intro x2 ls hl hf
    rw [pX6_isAtHand_20] at hf
    exact hf.elim
  | succ n20 ih =>
    intro x2 ls hl hf
    rw [pX6_isAtHand_20] at hf
    refine lv_iload_n hx hb dX6_isAtHand_20 rfl (lv_at hl 2 rfl) ?_
    refine lv_aload_n hx hb dX6_isAtHand_21 rfl (lv_at hl 1 rfl) ?_
    refine ro_calli (va_runV (As := []) (rest := [.int x2]) ⟨hx, hb, hml, hown, hts⟩ (metJ0_length_8abf5 (dC := dC) (dI := dI) (cI := cI) (cL := cL) (cB := cB) (cZ := cZ) (cT := cT) (cR := cR) (nb := nb) (adK := adK) (adV := adV) hi (k := fun r => r = nI (strLen.getD i 0)) rfl) (cwV 0 hts gX6_isAtHand_J0_length_8abf5 rfl rfl rfl ⟨rfl, by decide +kernel, by decide +kernel, by decide +kernel⟩ ⟨Nat.le_of_ble_eq_true rfl, Nat.le_of_ble_eq_true rfl⟩) ⟨PWS.blind, vk_recv hSF.1 hi hSS, fun U hU hW => ⟨rfl, PW.go hU hW (hP.sub (ws' := []) [] rfl) hK hN, SF.go hU hW hSF⟩⟩ rfl rfl hl.1 rfl (lv_room (Nat.le_of_ble_eq_true rfl)) dX6_isAtHand_22 ⟨Nat.zero_le _, Nat.zero_le _⟩) (fun r_9 h_9 => ?_)
    subst h_9
    refine lv_icmp_ge (tgt := 54) hx hb dX6_isAtHand_25 (by decide) (fun c_1 => ?_) (fun c_1 => ?_)
    · replace hf := hf.1 c_1
      refine lv_iconst (v := (1 : Int32)) hx hb dX6_isAtHand_54 (by decide) ?_
      exact W.zret (v := (1 : Int32)) hx hb hr rfl (fun t ht hW => ⟨(1 : Int32), rfl, hf, ht⟩) (fun q h => by cases h) dX6_isAtHand_55
    · replace hf := hf.2 c_1
      obtain ⟨h_3, hf⟩ := hf
      refine lv_aload_n hx hb dX6_isAtHand_28 rfl (lv_at hl 1 rfl) ?_
      refine lv_iload_n hx hb dX6_isAtHand_29 rfl (lv_at hl 2 rfl) ?_
      refine ro_calli (va_runV (As := [.int x2]) (rest := []) ⟨hx, hb, hml, hown, hts⟩ (metJ0_charAt_5068e (dC := dC) (dI := dI) (cI := cI) (cL := cL) (cB := cB) (cZ := cZ) (cT := cT) (cR := cR) (nb := nb) (adK := adK) (adV := adV) hi (k := fun r => r = sch i x2) h_3 rfl) (cwV 1 hts gX6_isAtHand_J0_charAt_5068e rfl rfl rfl ⟨rfl, by decide +kernel, by decide +kernel, by decide +kernel⟩ ⟨Nat.le_of_ble_eq_true rfl, Nat.le_of_ble_eq_true rfl⟩) ⟨PWS.blind, vk_recv hSF.1 hi hSS, fun U hU hW => ⟨rfl, PW.go hU hW (hP.sub (ws' := []) [] rfl) hK hN, SF.go hU hW hSF⟩⟩ rfl rfl hl.1 rfl (lv_room (Nat.le_of_ble_eq_true rfl)) dX6_isAtHand_30 ⟨Nat.zero_le _, Nat.zero_le _⟩) (fun r_9 h_9 => ?_)
      subst h_9
      refine lv_aload_n hx hb dX6_isAtHand_33 rfl (lv_at hl 0 rfl) ?_
      refine lv_aload_n hx hb dX6_isAtHand_34 rfl (lv_at hl 0 rfl) ?_
      refine va_get (D := (dC, dI)) (ci := 6) (v := .int s_place) (C := RX6) (T := TX6) (N := 5) hx hb hts iX6_isAtHand_X6 hown hK hP 0 rfl rfl 3 (by decide) (hts _ mX6_isAtHand_f28) (fun _ h9 => h9) rfl dX6_isAtHand_35 ?_
      refine lv_iload_n hx hb dX6_isAtHand_38 rfl (lv_at hl 2 rfl) ?_
      refine lv_iadd hx hb dX6_isAtHand_39 ?_
      refine ro_calli (va_runV (As := [.int (s_place + x2)]) (rest := [.int (sch i x2)]) ⟨hx, hb, hml, hown, hts⟩ (metX6_byteAt hf) (cwV 1 hts gX6_isAtHand_X6_byteAt rfl rfl rfl ⟨rfl, kX6_byteAt⟩ ⟨Nat.le_of_ble_eq_true rfl, Nat.le_of_ble_eq_true rfl⟩) ⟨PW.blind, va_recv hK hP (ci := 6) (q0 := 0) rfl rfl, fun U hU hW => ⟨rfl, PW.go hU hW hP hK hN⟩⟩ rfl rfl hl.1 rfl (lv_room (Nat.le_of_ble_eq_true rfl)) dX6_isAtHand_40 ⟨Nat.zero_le _, Nat.zero_le _⟩) (fun r_1 hf => ?_)
      refine lv_icmp_eq (tgt := 48) hx hb dX6_isAtHand_43 (by decide) (fun c_2 => ?_) (fun c_2 => ?_)
      · replace hf := hf.1 c_2
        refine lv_iinc (v := (x2 + 1)) (lv' := [(2, .int (x2 + 1)), (0, .ref h0), (1, .ref (adK i))]) hx hb dX6_isAtHand_48 hl (k := 2) rfl (by rfl) (by decide) rfl (fun ls hl => ?_)
        refine lv_goto (tgt := 20) hx hb dX6_isAtHand_51 (by decide) ?_
        exact ih (x2 + 1) ls (lv_sub hl [1, 2, 0] rfl) hf
      · replace hf := hf.2 c_2
        refine lv_iconst (v := (0 : Int32)) hx hb dX6_isAtHand_46 (by decide) ?_
        exact W.zret (v := (0 : Int32)) hx hb hr rfl (fun t ht hW => ⟨(0 : Int32), rfl, hf, ht⟩) (fun q h => by cases h) dX6_isAtHand_47
set_option maxHeartbeats 4000000 in
set_option maxRecDepth 100000 in
theorem metX6_isAtHand {h0 h1 r_items : Nat} {s_length s_place s_next : Int32} {s_bytes : Nat → Int32} {i : Nat} (hi : i < 6) {k : Int32 → Prop} (hf : pX6_isAtHand s_bytes s_place s_next i k) : Met l yX6_isAtHand wsX6_isAtHand ({ frames := 4, cells := 0, slots := 0, locals := 85 } : Room) (va_Pc [.ref h0, .ref (adK i)] (PWS dC dI (TYS cI cL cB cZ cT cR) [(h0, .inr (6, [.ref h1, .ref r_items, .int s_length, .int s_place, .int s_next])), (h1, .inl (cB, 200, .inl s_bytes))] nb adK adV)) (roQi k) 0 0 (fun _ => False) := by
  refine Met.ofW (cc := cX6_isAtHand) (maxL := 3) (ret := (some .boolean)) (by decide) rfl ?_
  intro p e s m args below meth c s₁ B hml hv
  obtain ⟨rfl, ⟨hP, hK, hN⟩, hSF⟩ := hv
  have C : CX p s m _ meth c cX6_isAtHand 3 wsX6_isAtHand RX6 (some .boolean) := ⟨B.exec, B.bytes, hml, findClass_of_methodNamed B.named, atoms_spec (ws := wsX6_isAtHand) B.pre, B.returns, B.notSynchronized⟩
  obtain ⟨hx, hb, -, hown, hts, hr, hlocks⟩ := id C
  have hSS : va_S (fun q => nb ≤ q) s.heap s.heap [] := va_S.rf
  have hl := lv_entry ([.ref h0, .ref (adK i)]) (n := 3) (Nat.le_of_ble_eq_true rfl)
  rw [lg_entry_eq]
  generalize (lg_sl ([.ref h0, .ref (adK i)]) ++ List.replicate (3 - (lg_sl ([.ref h0, .ref (adK i)])).length) Slot.unset).toArray = ls at hl ⊢
  have hl : lv_has ls 3 [(0, .ref h0), (1, .ref (adK i))] := hl
  unfold pX6_isAtHand at hf
  refine lv_aload_n hx hb dX6_isAtHand_0 rfl (lv_at hl 1 rfl) ?_
  refine ro_calli (va_runV (As := []) (rest := []) ⟨hx, hb, hml, hown, hts⟩ (metJ0_length_8abf5 (dC := dC) (dI := dI) (cI := cI) (cL := cL) (cB := cB) (cZ := cZ) (cT := cT) (cR := cR) (nb := nb) (adK := adK) (adV := adV) hi (k := fun r => r = nI (strLen.getD i 0)) rfl) (cwV 0 hts gX6_isAtHand_J0_length_8abf5 rfl rfl rfl ⟨rfl, by decide +kernel, by decide +kernel, by decide +kernel⟩ ⟨Nat.le_of_ble_eq_true rfl, Nat.le_of_ble_eq_true rfl⟩) ⟨PWS.blind, vk_recv hSF.1 hi hSS, fun U hU hW => ⟨rfl, PW.go hU hW (hP.sub (ws' := []) [] rfl) hK hN, SF.go hU hW hSF⟩⟩ rfl rfl hl.1 rfl (lv_room (Nat.le_of_ble_eq_true rfl)) dX6_isAtHand_1 ⟨Nat.zero_le _, Nat.zero_le _⟩) (fun r_9 h_9 => ?_)
  subst h_9
  refine lv_aload_n hx hb dX6_isAtHand_4 rfl (lv_at hl 0 rfl) ?_
  refine va_get (D := (dC, dI)) (ci := 6) (v := .int s_next) (C := RX6) (T := TX6) (N := 5) hx hb hts iX6_isAtHand_X6 hown hK hP 0 rfl rfl 4 (by decide) (hts _ mX6_isAtHand_f31) (fun _ h9 => h9) rfl dX6_isAtHand_5 ?_
  refine lv_aload_n hx hb dX6_isAtHand_8 rfl (lv_at hl 0 rfl) ?_
  refine va_get (D := (dC, dI)) (ci := 6) (v := .int s_place) (C := RX6) (T := TX6) (N := 5) hx hb hts iX6_isAtHand_X6 hown hK hP 0 rfl rfl 3 (by decide) (hts _ mX6_isAtHand_f28) (fun _ h9 => h9) rfl dX6_isAtHand_9 ?_
  refine lv_isub hx hb dX6_isAtHand_12 ?_
  refine lv_icmp_eq (tgt := 18) hx hb dX6_isAtHand_13 (by decide) (fun c_1 => ?_) (fun c_1 => ?_)
  · replace hf := hf.1 c_1
    refine lv_iconst (v := (0 : Int32)) hx hb dX6_isAtHand_18 (by decide) ?_
    refine lv_istore_n (lv' := [(2, .int (0 : Int32)), (0, .ref h0), (1, .ref (adK i))]) hx hb dX6_isAtHand_19 rfl hl (by decide) rfl (fun ls hl => ?_)
    obtain ⟨n20, hf⟩ := hf
    exact wX6_isAtHand_20 C hK hN hSF hP hi n20 (0 : Int32) ls (lv_sub hl [1, 2, 0] rfl) hf
  · replace hf := hf.2 c_1
    refine lv_iconst (v := (0 : Int32)) hx hb dX6_isAtHand_16 (by decide) ?_
    exact W.zret (v := (0 : Int32)) hx hb hr rfl (fun t ht hW => ⟨(0 : Int32), rfl, hf, ht⟩) (fun q h => by cases h) dX6_isAtHand_17
set_option maxHeartbeats 4000000 in
set_option maxRecDepth 100000 in
theorem metX6_wordOf {a0 : Int32} {k : Nat → Prop} (hf : pX6_wordOf a0 (fun i => k (adK i))) : Met l yX6_wordOf wsX6_wordOf ({ frames := 0, cells := 0, slots := 0, locals := 0 } : Room) (va_Pc [.int a0] (PWS dC dI (TYS cI cL cB cZ cT cR) [] nb adK adV)) (roQr k) 0 0 (fun _ => False) := by
  refine Met.ofW (cc := cX6_wordOf) (maxL := 1) (ret := (some (.object "java/lang/String"))) (by decide) rfl ?_
  intro p e s m args below meth c s₁ B hml hv
  obtain ⟨rfl, ⟨hP, hK, hN⟩, hSF⟩ := hv
  have C : CX p s m _ meth c cX6_wordOf 1 wsX6_wordOf RX6 (some (.object "java/lang/String")) := ⟨B.exec, B.bytes, hml, findClass_of_methodNamed B.named, atoms_spec (ws := wsX6_wordOf) B.pre, B.returns, B.notSynchronized⟩
  obtain ⟨hx, hb, -, hown, hts, hr, hlocks⟩ := id C
  have hSS : va_S (fun q => nb ≤ q) s.heap s.heap [] := va_S.rf
  have hl := lv_entry ([.int a0]) (n := 1) (Nat.le_of_ble_eq_true rfl)
  rw [lg_entry_eq]
  generalize (lg_sl ([.int a0]) ++ List.replicate (1 - (lg_sl ([.int a0])).length) Slot.unset).toArray = ls at hl ⊢
  have hl : lv_has ls 1 [(0, .int a0)] := hl
  unfold pX6_wordOf at hf
  refine lv_iload_n hx hb dX6_wordOf_0 rfl (lv_at hl 0 rfl) ?_
  by_cases c_1 : a0 = 0
  · refine lv_tableIn (tgt := 36) hx hb dX6_wordOf_1 (by rw [c_1]; decide) (by rw [c_1]; decide) (by rw [c_1]; rfl) (by decide) ?_
    replace hf := hf.1 c_1
    refine va_ldcS hx hb hown (hSF.2.1 0 (by decide)) dX6_wordOf_36 ?_
    exact W.aret (v := .ref (adK 0)) hx hb hr (Or.inl ⟨_, rfl⟩) (Or.inr ⟨_, rfl⟩) (fun t ht hW => ⟨adK 0, rfl, hf, ht⟩) (fun q h => by cases h) dX6_wordOf_38
  · have d_0 : ¬ a0 = 0 := c_1
    by_cases c_1 : a0 = 1
    · refine lv_tableIn (tgt := 39) hx hb dX6_wordOf_1 (by rw [c_1]; decide) (by rw [c_1]; decide) (by rw [c_1]; rfl) (by decide) ?_
      replace hf := hf.2.1 c_1
      refine va_ldcS hx hb hown (hSF.2.1 1 (by decide)) dX6_wordOf_39 ?_
      exact W.aret (v := .ref (adK 1)) hx hb hr (Or.inl ⟨_, rfl⟩) (Or.inr ⟨_, rfl⟩) (fun t ht hW => ⟨adK 1, rfl, hf, ht⟩) (fun q h => by cases h) dX6_wordOf_41
    · have d_1 : ¬ a0 = 1 := c_1
      by_cases c_1 : a0 = 2
      · refine lv_tableIn (tgt := 42) hx hb dX6_wordOf_1 (by rw [c_1]; decide) (by rw [c_1]; decide) (by rw [c_1]; rfl) (by decide) ?_
        replace hf := hf.2.2.1 c_1
        refine va_ldcS hx hb hown (hSF.2.1 2 (by decide)) dX6_wordOf_42 ?_
        exact W.aret (v := .ref (adK 2)) hx hb hr (Or.inl ⟨_, rfl⟩) (Or.inr ⟨_, rfl⟩) (fun t ht hW => ⟨adK 2, rfl, hf, ht⟩) (fun q h => by cases h) dX6_wordOf_44
      · have d_2 : ¬ a0 = 2 := c_1
        by_cases c_1 : a0 = 3
        · refine lv_tableIn (tgt := 45) hx hb dX6_wordOf_1 (by rw [c_1]; decide) (by rw [c_1]; decide) (by rw [c_1]; rfl) (by decide) ?_
          replace hf := hf.2.2.2.1 c_1
          refine va_ldcS hx hb hown (hSF.2.1 3 (by decide)) dX6_wordOf_45 ?_
          exact W.aret (v := .ref (adK 3)) hx hb hr (Or.inl ⟨_, rfl⟩) (Or.inr ⟨_, rfl⟩) (fun t ht hW => ⟨adK 3, rfl, hf, ht⟩) (fun q h => by cases h) dX6_wordOf_47
        · have d_3 : ¬ a0 = 3 := c_1
          by_cases c_1 : a0 = 4
          · refine lv_tableIn (tgt := 48) hx hb dX6_wordOf_1 (by rw [c_1]; decide) (by rw [c_1]; decide) (by rw [c_1]; rfl) (by decide) ?_
            replace hf := hf.2.2.2.2.1 c_1
            refine va_ldcS hx hb hown (hSF.2.1 4 (by decide)) dX6_wordOf_48 ?_
            exact W.aret (v := .ref (adK 4)) hx hb hr (Or.inl ⟨_, rfl⟩) (Or.inr ⟨_, rfl⟩) (fun t ht hW => ⟨adK 4, rfl, hf, ht⟩) (fun q h => by cases h) dX6_wordOf_50
          · have d_4 : ¬ a0 = 4 := c_1
            refine lv_tableOut (tgt := 51) hx hb dX6_wordOf_1 (by have e_0 := lv_neT d_0 (a := 0) rfl; have e_1 := lv_neT d_1 (a := 1) rfl; have e_2 := lv_neT d_2 (a := 2) rfl; have e_3 := lv_neT d_3 (a := 3) rfl; have e_4 := lv_neT d_4 (a := 4) rfl; omega) (by decide) ?_
            replace hf := hf.2.2.2.2.2 d_0 d_1 d_2 d_3 d_4
            refine va_ldcS hx hb hown (hSF.2.1 5 (by decide)) dX6_wordOf_51 ?_
            exact W.aret (v := .ref (adK 5)) hx hb hr (Or.inl ⟨_, rfl⟩) (Or.inr ⟨_, rfl⟩) (fun t ht hW => ⟨adK 5, rfl, hf, ht⟩) (fun q h => by cases h) dX6_wordOf_53
theorem pX6_wordOf_lt {a0 : Int32} {k : Nat → Prop} (hf : pX6_wordOf a0 k) : pX6_wordOf a0 (fun i => i < 6 ∧ k i) := ⟨fun h => ⟨by decide, hf.1 h⟩, fun h => ⟨by decide, hf.2.1 h⟩, fun h => ⟨by decide, hf.2.2.1 h⟩, fun h => ⟨by decide, hf.2.2.2.1 h⟩, fun h => ⟨by decide, hf.2.2.2.2.1 h⟩, fun h0 h1 h2 h3 h4 => ⟨by decide, hf.2.2.2.2.2 h0 h1 h2 h3 h4⟩⟩
theorem pX6_wordOf_ex {a0 : Int32} {k : Nat → Prop} {ad : Nat → Nat} (hf : pX6_wordOf a0 k) : pX6_wordOf a0 (fun i => ∃ j, ad i = ad j ∧ j < 6 ∧ k j) := ⟨fun h => ⟨_, rfl, by decide, hf.1 h⟩, fun h => ⟨_, rfl, by decide, hf.2.1 h⟩, fun h => ⟨_, rfl, by decide, hf.2.2.1 h⟩, fun h => ⟨_, rfl, by decide, hf.2.2.2.1 h⟩, fun h => ⟨_, rfl, by decide, hf.2.2.2.2.1 h⟩, fun h0 h1 h2 h3 h4 => ⟨_, rfl, by decide, hf.2.2.2.2.2 h0 h1 h2 h3 h4⟩⟩
set_option maxHeartbeats 4000000 in
set_option maxRecDepth 100000 in
theorem wX6_wordAtHand_2 {p : Program} {e : Env} {s : State} {m : MethodId} {args : Array Value} {below : List Frame} {meth : Method} {c : Code} {h0 h1 r_items : Nat} {s_length s_place s_next : Int32} {s_bytes : Nat → Int32} (C : CX p s m args meth c cX6_wordAtHand 2 wsX6_wordAtHand RX6 (some .int)) (hK : va_K (dC, dI) vwCl (TYS cI cL cB cZ cT cR) s) (hN : NW s) (hSF : SF nb adK adV s s.heap) (hP : va_P (dC, dI) vwCl [(h0, .inr (6, [.ref h1, .ref r_items, .int s_length, .int s_place, .int s_next])), (h1, .inl (cB, 200, .inl s_bytes))] s.heap) {k : Int32 → Prop} : ∀ (n2 : Nat), ∀ (x1 : Int32) (ls : Array Slot), lv_has ls 2 [(0, .ref h0), (1, .int x1)] → pX6_wordAtHand_2 s_bytes s_place s_next k n2 x1 → W p l e ({ frames := 5, cells := 0, slots := 0, locals := 140 } : Room) s m args below meth c s.heap [] 0 0 (MQ below (roQi k) args s 0 0 (fun _ => False)) (F0 m 2 ls []) := by
  obtain ⟨hx, hb, hml, hown, hts, hr, hlocks⟩ := id C
  intro n2
  induction n2 with
  | zero =>
    intro x1 ls hl hf
    rw [pX6_wordAtHand_2] at hf
    exact hf.elim
  | succ n2 ih =>
    intro x1 ls hl hf
    rw [pX6_wordAtHand_2] at hf
    refine lv_iload_n hx hb dX6_wordAtHand_2 rfl (lv_at hl 1 rfl) ?_
    refine lv_bipush (v := (6 : Int32)) hx hb dX6_wordAtHand_3 (by decide) ?_
    refine lv_icmp_ge (tgt := 27) hx hb dX6_wordAtHand_5 (by decide) (fun c_1 => ?_) (fun c_1 => ?_)
    · replace hf := hf.1 c_1
      refine lv_iconst (v := (-1 : Int32)) hx hb dX6_wordAtHand_27 (by decide) ?_
      exact W.iret (v := (-1 : Int32)) hx hb hr (fun t ht hW => ⟨(-1 : Int32), rfl, hf, ht⟩) (fun q h => by cases h) dX6_wordAtHand_28
    · replace hf := hf.2 c_1
      refine lv_aload_n hx hb dX6_wordAtHand_8 rfl (lv_at hl 0 rfl) ?_
      refine lv_iload_n hx hb dX6_wordAtHand_9 rfl (lv_at hl 1 rfl) ?_
      refine ro_callr (va_runS (As := [.int x1]) (rest := [.ref h0]) ⟨hx, hb, hml, hown, hts⟩ (metX6_wordOf (dC := dC) (dI := dI) (cI := cI) (cL := cL) (cB := cB) (cZ := cZ) (cT := cT) (cR := cR) (nb := nb) (adK := adK) (adV := adV) (k := fun a => ∃ j, a = adK j ∧ j < 6 ∧ pX6_isAtHand s_bytes s_place s_next j (fun (r_1 : Int32) => ((r_1 = (0 : Int32) → pX6_wordAtHand_2 s_bytes s_place s_next k n2 (x1 + 1)) ∧ (¬ r_1 = (0 : Int32) → k x1)))) (pX6_wordOf_ex (ad := adK) hf)) (va_cwS 1 hts gX6_wordAtHand_X6_wordOf rfl rfl rfl ⟨by decide +kernel, by decide +kernel, by decide +kernel⟩ ⟨Nat.le_of_ble_eq_true rfl, Nat.le_of_ble_eq_true rfl⟩) ⟨PWS.blind, fun U hU hW => ⟨rfl, PW.go hU hW (hP.sub (ws' := []) [] rfl) hK hN, SF.go hU hW hSF⟩⟩ rfl rfl hl.1 rfl (lv_room (Nat.le_of_ble_eq_true rfl)) dX6_wordAtHand_10 ⟨Nat.zero_le _, Nat.zero_le _⟩) (fun r_9 h_9 => ?_)
      obtain ⟨i, rfl, hi, hf⟩ := h_9
      refine ro_calli (va_runV (As := [.ref (adK i)]) (rest := []) ⟨hx, hb, hml, hown, hts⟩ (metX6_isAtHand (dC := dC) (dI := dI) (cI := cI) (cL := cL) (cB := cB) (cZ := cZ) (cT := cT) (cR := cR) (nb := nb) (adK := adK) (adV := adV) hi hf) (cwV 1 hts gX6_wordAtHand_X6_isAtHand rfl rfl rfl ⟨rfl, by decide +kernel, by decide +kernel, by decide +kernel⟩ ⟨Nat.le_of_ble_eq_true rfl, Nat.le_of_ble_eq_true rfl⟩) ⟨PWS.blind, va_recv hK hP (ci := 6) (q0 := 0) rfl rfl, fun U hU hW => ⟨rfl, PW.go hU hW hP hK hN, SF.go hU hW hSF⟩⟩ rfl rfl hl.1 rfl (lv_room (Nat.le_of_ble_eq_true rfl)) dX6_wordAtHand_13 ⟨Nat.zero_le _, Nat.zero_le _⟩) (fun r_1 hf => ?_)
      refine lv_if_eq (tgt := 21) hx hb dX6_wordAtHand_16 (by decide) (fun c_2 => ?_) (fun c_2 => ?_)
      · replace hf := hf.1 c_2
        refine lv_iinc (v := (x1 + 1)) (lv' := [(1, .int (x1 + 1)), (0, .ref h0)]) hx hb dX6_wordAtHand_21 hl (k := 1) rfl (by rfl) (by decide) rfl (fun ls hl => ?_)
        refine lv_goto (tgt := 2) hx hb dX6_wordAtHand_24 (by decide) ?_
        exact ih (x1 + 1) ls (lv_sub hl [1, 0] rfl) hf
      · replace hf := hf.2 c_2
        refine lv_iload_n hx hb dX6_wordAtHand_19 rfl (lv_at hl 1 rfl) ?_
        exact W.iret (v := x1) hx hb hr (fun t ht hW => ⟨x1, rfl, hf, ht⟩) (fun q h => by cases h) dX6_wordAtHand_20
set_option maxHeartbeats 4000000 in
set_option maxRecDepth 100000 in
theorem metX6_wordAtHand {h0 h1 r_items : Nat} {s_length s_place s_next : Int32} {s_bytes : Nat → Int32} {k : Int32 → Prop} (hf : pX6_wordAtHand s_bytes s_place s_next k) : Met l yX6_wordAtHand wsX6_wordAtHand ({ frames := 5, cells := 0, slots := 0, locals := 140 } : Room) (va_Pc [.ref h0] (PWS dC dI (TYS cI cL cB cZ cT cR) [(h0, .inr (6, [.ref h1, .ref r_items, .int s_length, .int s_place, .int s_next])), (h1, .inl (cB, 200, .inl s_bytes))] nb adK adV)) (roQi k) 0 0 (fun _ => False) := by
  refine Met.ofW (cc := cX6_wordAtHand) (maxL := 2) (ret := (some .int)) (by decide) rfl ?_
  intro p e s m args below meth c s₁ B hml hv
  obtain ⟨rfl, ⟨hP, hK, hN⟩, hSF⟩ := hv
  have C : CX p s m _ meth c cX6_wordAtHand 2 wsX6_wordAtHand RX6 (some .int) := ⟨B.exec, B.bytes, hml, findClass_of_methodNamed B.named, atoms_spec (ws := wsX6_wordAtHand) B.pre, B.returns, B.notSynchronized⟩
  obtain ⟨hx, hb, -, hown, hts, hr, hlocks⟩ := id C
  have hSS : va_S (fun q => nb ≤ q) s.heap s.heap [] := va_S.rf
  have hl := lv_entry ([.ref h0]) (n := 2) (Nat.le_of_ble_eq_true rfl)
  rw [lg_entry_eq]
  generalize (lg_sl ([.ref h0]) ++ List.replicate (2 - (lg_sl ([.ref h0])).length) Slot.unset).toArray = ls at hl ⊢
  have hl : lv_has ls 2 [(0, .ref h0)] := hl
  unfold pX6_wordAtHand at hf
  refine lv_iconst (v := (0 : Int32)) hx hb dX6_wordAtHand_0 (by decide) ?_
  refine lv_istore_n (lv' := [(1, .int (0 : Int32)), (0, .ref h0)]) hx hb dX6_wordAtHand_1 rfl hl (by decide) rfl (fun ls hl => ?_)
  obtain ⟨n2, hf⟩ := hf
  exact wX6_wordAtHand_2 C hK hN hSF hP n2 (0 : Int32) ls (lv_sub hl [1, 0] rfl) hf

set_option maxHeartbeats 4000000 in
set_option maxRecDepth 100000 in
theorem metX6_numbersIn {a0 : Int32} {k : Int32 → Prop} (hf : pX6_numbersIn a0 k) : Met l yX6_numbersIn wsX6_numbersIn ({ frames := 0, cells := 0, slots := 0, locals := 0 } : Room) (va_Pc [.int a0] (PW dC dI (TYS cI cL cB cZ cT cR) [])) (roQi k) 0 0 (fun _ => False) := by
  refine Met.ofW (cc := cX6_numbersIn) (maxL := 1) (ret := (some .int)) (by decide) rfl ?_
  intro p e s m args below meth c s₁ B hml hv
  obtain ⟨rfl, hP, hK, hN⟩ := hv
  have C : CX p s m _ meth c cX6_numbersIn 1 wsX6_numbersIn RX6 (some .int) := ⟨B.exec, B.bytes, hml, findClass_of_methodNamed B.named, atoms_spec (ws := wsX6_numbersIn) B.pre, B.returns, B.notSynchronized⟩
  obtain ⟨hx, hb, -, hown, hts, hr, hlocks⟩ := id C
  have hl := lv_entry ([.int a0]) (n := 1) (Nat.le_of_ble_eq_true rfl)
  rw [lg_entry_eq]
  generalize (lg_sl ([.int a0]) ++ List.replicate (1 - (lg_sl ([.int a0])).length) Slot.unset).toArray = ls at hl ⊢
  have hl : lv_has ls 1 [(0, .int a0)] := hl
  unfold pX6_numbersIn at hf
  refine lv_iload_n hx hb dX6_numbersIn_0 rfl (lv_at hl 0 rfl) ?_
  by_cases c_1 : a0 = 1
  · refine lv_tableIn (tgt := 32) hx hb dX6_numbersIn_1 (by rw [c_1]; decide) (by rw [c_1]; decide) (by rw [c_1]; rfl) (by decide) ?_
    replace hf := hf.1 c_1
    refine lv_iconst (v := (4 : Int32)) hx hb dX6_numbersIn_32 (by decide) ?_
    exact W.iret (v := (4 : Int32)) hx hb hr (fun t ht hW => ⟨(4 : Int32), rfl, hf, ht⟩) (fun q h => by cases h) dX6_numbersIn_33
  · have d_1_1 : ¬ a0 = 1 := c_1
    by_cases c_1 : a0 = 2
    · refine lv_tableIn (tgt := 36) hx hb dX6_numbersIn_1 (by rw [c_1]; decide) (by rw [c_1]; decide) (by rw [c_1]; rfl) (by decide) ?_
      replace hf := hf.2.1 c_1
      refine lv_iconst (v := (2 : Int32)) hx hb dX6_numbersIn_36 (by decide) ?_
      exact W.iret (v := (2 : Int32)) hx hb hr (fun t ht hW => ⟨(2 : Int32), rfl, hf, ht⟩) (fun q h => by cases h) dX6_numbersIn_37
    · have d_1_2 : ¬ a0 = 2 := c_1
      by_cases c_1 : a0 = 3
      · refine lv_tableIn (tgt := 34) hx hb dX6_numbersIn_1 (by rw [c_1]; decide) (by rw [c_1]; decide) (by rw [c_1]; rfl) (by decide) ?_
        replace hf := hf.2.2.1 c_1
        refine lv_iconst (v := (3 : Int32)) hx hb dX6_numbersIn_34 (by decide) ?_
        exact W.iret (v := (3 : Int32)) hx hb hr (fun t ht hW => ⟨(3 : Int32), rfl, hf, ht⟩) (fun q h => by cases h) dX6_numbersIn_35
      · have d_1_3 : ¬ a0 = 3 := c_1
        by_cases c_1 : a0 = 4
        · refine lv_tableIn (tgt := 36) hx hb dX6_numbersIn_1 (by rw [c_1]; decide) (by rw [c_1]; decide) (by rw [c_1]; rfl) (by decide) ?_
          replace hf := hf.2.2.2.1 c_1
          refine lv_iconst (v := (2 : Int32)) hx hb dX6_numbersIn_36 (by decide) ?_
          exact W.iret (v := (2 : Int32)) hx hb hr (fun t ht hW => ⟨(2 : Int32), rfl, hf, ht⟩) (fun q h => by cases h) dX6_numbersIn_37
        · have d_1_4 : ¬ a0 = 4 := c_1
          refine lv_tableOut (tgt := 38) hx hb dX6_numbersIn_1 (by have e_1 := lv_neT d_1_1 (a := 1) rfl; have e_2 := lv_neT d_1_2 (a := 2) rfl; have e_3 := lv_neT d_1_3 (a := 3) rfl; have e_4 := lv_neT d_1_4 (a := 4) rfl; omega) (by decide) ?_
          replace hf := hf.2.2.2.2 d_1_1 d_1_2 d_1_3 d_1_4
          refine lv_iconst (v := (1 : Int32)) hx hb dX6_numbersIn_38 (by decide) ?_
          exact W.iret (v := (1 : Int32)) hx hb hr (fun t ht hW => ⟨(1 : Int32), rfl, hf, ht⟩) (fun q h => by cases h) dX6_numbersIn_39
set_option maxHeartbeats 4000000 in
set_option maxRecDepth 100000 in
theorem wX6_numberAtHand_7 {p : Program} {e : Env} {s : State} {m : MethodId} {args : Array Value} {below : List Frame} {meth : Method} {c : Code} (C : CX p s m args meth c cX6_numberAtHand 3 wsX6_numberAtHand RX6 (some .int)) (hK : va_K (dC, dI) vwCl (TYS cI cL cB cZ cT cR) s) (hN : NW s) {h0 r_items h1 : Nat} {s_length s_place s_next : Int32} {s_bytes : Nat → Int32} {k : Int32 → Prop} {kx : Int32 → Prop} (hP : va_P (dC, dI) vwCl [(h0, .inr (6, [.ref h1, .ref r_items, .int s_length, .int s_place, .int s_next])), (h1, .inl (cB, 200, .inl s_bytes))] s.heap) (hkx : ∀ (x1 : Int32) (ls : Array Slot), lv_has ls 3 [(0, .ref h0), (1, .int x1)] → kx x1 → W p l e ({ frames := 1, cells := 0, slots := 0, locals := 21 } : Room) s m args below meth c s.heap [] 0 0 (MQ below (roQi k) args s 0 0 (fun _ => False)) (F0 m 35 ls [])) : ∀ (n7 : Nat), ∀ (x1 : Int32) (x2 : Int32) (ls : Array Slot), lv_has ls 3 [(0, .ref h0), (1, .int x1), (2, .int x2)] → pX6_numberAtHand_7 s_next s_bytes kx n7 x1 x2 → W p l e ({ frames := 1, cells := 0, slots := 0, locals := 21 } : Room) s m args below meth c s.heap [] 0 0 (MQ below (roQi k) args s 0 0 (fun _ => False)) (F0 m 7 ls []) := by
  obtain ⟨hx, hb, hml, hown, hts, hr, hlocks⟩ := id C
  intro n7
  induction n7 with
  | zero =>
    intro x1 x2 ls hl hf
    rw [pX6_numberAtHand_7] at hf
    exact hf.elim
  | succ n7 ih =>
    intro x1 x2 ls hl hf
    rw [pX6_numberAtHand_7] at hf
    refine lv_iload_n hx hb dX6_numberAtHand_7 rfl (lv_at hl 2 rfl) ?_
    refine lv_aload_n hx hb dX6_numberAtHand_8 rfl (lv_at hl 0 rfl) ?_
    refine va_get (D := (dC, dI)) (ci := 6) (v := .int s_next) (C := RX6) (T := TX6) (N := 5) hx hb hts iX6_numberAtHand_X6 hown hK hP 0 rfl rfl 4 (by decide) (hts _ mX6_numberAtHand_f31) (fun _ h9 => h9) rfl dX6_numberAtHand_9 ?_
    refine lv_icmp_ge (tgt := 35) hx hb dX6_numberAtHand_12 (by decide) (fun c_1 => ?_) (fun c_1 => ?_)
    · replace hf := hf.1 c_1
      exact hkx x1 ls (lv_sub hl [0, 1] rfl) hf
    · replace hf := hf.2 c_1
      refine lv_bipush (v := (10 : Int32)) hx hb dX6_numberAtHand_15 (by decide) ?_
      refine lv_iload_n hx hb dX6_numberAtHand_17 rfl (lv_at hl 1 rfl) ?_
      refine lv_imul hx hb dX6_numberAtHand_18 ?_
      refine lv_aload_n hx hb dX6_numberAtHand_19 rfl (lv_at hl 0 rfl) ?_
      refine lv_iload_n hx hb dX6_numberAtHand_20 rfl (lv_at hl 2 rfl) ?_
      have hPc := hP.sub (ws' := [(h0, .inr (6, [.ref h1, .ref r_items, .int s_length, .int s_place, .int s_next])), (h1, .inl (cB, 200, .inl s_bytes))]) [0, 1] rfl
      refine ro_calli (va_runV (As := [.int x2]) (rest := [.int ((10 : Int32) * x1)]) ⟨hx, hb, hml, hown, hts⟩ (metX6_byteAt hf) (cwV 1 hts gX6_numberAtHand_X6_byteAt rfl rfl rfl ⟨rfl, kX6_byteAt⟩ ⟨Nat.le_of_ble_eq_true rfl, Nat.le_of_ble_eq_true rfl⟩) ⟨PW.blind, va_recv hK hPc (ci := 6) (q0 := 0) rfl rfl, fun U hU hW => ⟨rfl, PW.go hU hW hPc hK hN⟩⟩ rfl rfl hl.1 rfl (lv_room (Nat.le_of_ble_eq_true rfl)) dX6_numberAtHand_21 ⟨Nat.zero_le _, Nat.zero_le _⟩) (fun r_2 hf => ?_)
      refine lv_iadd hx hb dX6_numberAtHand_24 ?_
      refine lv_bipush (v := (48 : Int32)) hx hb dX6_numberAtHand_25 (by decide) ?_
      refine lv_isub hx hb dX6_numberAtHand_27 ?_
      refine lv_istore_n (lv' := [(1, .int ((((10 : Int32) * x1) + r_2) - (48 : Int32))), (0, .ref h0), (2, .int x2)]) hx hb dX6_numberAtHand_28 rfl hl (by decide) rfl (fun ls hl => ?_)
      refine lv_iinc (v := (x2 + 1)) (lv' := [(2, .int (x2 + 1)), (1, .int ((((10 : Int32) * x1) + r_2) - (48 : Int32))), (0, .ref h0)]) hx hb dX6_numberAtHand_29 hl (k := 2) rfl (by rfl) (by decide) rfl (fun ls hl => ?_)
      refine lv_goto (tgt := 7) hx hb dX6_numberAtHand_32 (by decide) ?_
      exact ih ((((10 : Int32) * x1) + r_2) - (48 : Int32)) (x2 + 1) ls (lv_sub hl [2, 1, 0] rfl) hf
set_option maxHeartbeats 4000000 in
set_option maxRecDepth 100000 in
theorem metX6_numberAtHand {h0 r_items h1 : Nat} {s_length s_place s_next : Int32} {s_bytes : Nat → Int32}  {k : Int32 → Prop} (hf : pX6_numberAtHand s_place s_next s_bytes k) : Met l yX6_numberAtHand wsX6_numberAtHand ({ frames := 1, cells := 0, slots := 0, locals := 21 } : Room) (va_Pc [.ref h0] (PW dC dI (TYS cI cL cB cZ cT cR) [(h0, .inr (6, [.ref h1, .ref r_items, .int s_length, .int s_place, .int s_next])), (h1, .inl (cB, 200, .inl s_bytes))])) (roQi k) 0 0 (fun _ => False) := by
  refine Met.ofW (cc := cX6_numberAtHand) (maxL := 3) (ret := (some .int)) (by decide) rfl ?_
  intro p e s m args below meth c s₁ B hml hv
  obtain ⟨rfl, hP, hK, hN⟩ := hv
  have C : CX p s m _ meth c cX6_numberAtHand 3 wsX6_numberAtHand RX6 (some .int) := ⟨B.exec, B.bytes, hml, findClass_of_methodNamed B.named, atoms_spec (ws := wsX6_numberAtHand) B.pre, B.returns, B.notSynchronized⟩
  obtain ⟨hx, hb, -, hown, hts, hr, hlocks⟩ := id C
  have hl := lv_entry ([.ref h0]) (n := 3) (Nat.le_of_ble_eq_true rfl)
  rw [lg_entry_eq]
  generalize (lg_sl ([.ref h0]) ++ List.replicate (3 - (lg_sl ([.ref h0])).length) Slot.unset).toArray = ls at hl ⊢
  have hl : lv_has ls 3 [(0, .ref h0)] := hl
  unfold pX6_numberAtHand at hf
  refine lv_iconst (v := (0 : Int32)) hx hb dX6_numberAtHand_0 (by decide) ?_
  refine lv_istore_n (lv' := [(1, .int (0 : Int32)), (0, .ref h0)]) hx hb dX6_numberAtHand_1 rfl hl (by decide) rfl (fun ls hl => ?_)
  refine lv_aload_n hx hb dX6_numberAtHand_2 rfl (lv_at hl 1 rfl) ?_
  refine va_get (D := (dC, dI)) (ci := 6) (v := .int s_place) (C := RX6) (T := TX6) (N := 5) hx hb hts iX6_numberAtHand_X6 hown hK hP 0 rfl rfl 3 (by decide) (hts _ mX6_numberAtHand_f28) (fun _ h9 => h9) rfl dX6_numberAtHand_3 ?_
  refine lv_istore_n (lv' := [(2, .int s_place), (1, .int (0 : Int32)), (0, .ref h0)]) hx hb dX6_numberAtHand_6 rfl hl (by decide) rfl (fun ls hl => ?_)
  obtain ⟨n7, hf⟩ := hf
  refine wX6_numberAtHand_7 C hK hN hP (fun x1_3 ls hl hf => ?_) n7 (0 : Int32) s_place ls (lv_sub hl [2, 1, 0] rfl) hf
  refine lv_iload_n hx hb dX6_numberAtHand_35 rfl (lv_at hl 1 rfl) ?_
  exact W.iret (v := x1_3) hx hb hr (fun t ht hW => ⟨x1_3, rfl, hf, ht⟩) (fun q h => by cases h) dX6_numberAtHand_36
set_option maxHeartbeats 4000000 in
set_option maxRecDepth 100000 in
theorem wX6_findFault_71 {p : Program} {e : Env} {s : State} {m : MethodId} {args : Array Value} {below : List Frame} {meth : Method} {c : Code} (C : CX p s m args meth c cX6_findFault 7 wsX6_findFault RX6 (some .int)) (hK : va_K (dC, dI) vwCl (TYS cI cL cB cZ cT cR) s) (hN : NW s) {A : Nat → Prop} (hSF : SF nb adK adV s s.heap) (hnb : ∀ q, A q → nb ≤ q) (hA : ∀ q : Nat, s.heap.size ≤ q → A q) {h0 h1 h2 h3 : Nat} {s_length : Int32} {s_bytes : Nat → Int32} {k : Int32 → Int32 → Int32 → Int32 → (Nat → Int32) → Prop} {kb : Int32 → Int32 → Int32 → Int32 → Int32 → Int32 → Int32 → (Nat → Int32) → Prop} (hkb : ∀ (x1 : Int32) (x2 : Int32) (x3 : Int32) (x4 : Int32) (s_place : Int32) (s_next : Int32) (s_items_size : Int32) (s_items_cells : Nat → Int32) (H : Heap) (locs : List Loc) (ls : Array Slot), va_P (dC, dI) vwCl [(h0, .inr (6, [.ref h1, .ref h2, .int s_length, .int s_place, .int s_next])), (h1, .inl (cB, 200, .inl s_bytes)), (h2, .inr (7, [.int (33 : Int32), .int (5 : Int32), .ref h3, .int s_items_size])), (h3, .inl (cI, 165, .inl s_items_cells))] H → va_D A [(h0, .inr (6, [.ref h1, .ref h2, .int s_length, .int s_place, .int s_next])), (h1, .inl (cB, 200, .inl s_bytes)), (h2, .inr (7, [.int (33 : Int32), .int (5 : Int32), .ref h3, .int s_items_size])), (h3, .inl (cI, 165, .inl s_items_cells))] → va_S A s.heap H locs → lv_has ls 7 [(0, .ref h0), (1, .int x1), (2, .int x2), (3, .int x3), (4, .int x4)] → kb x1 x2 x3 x4 s_place s_next s_items_size s_items_cells → W p l e ({ frames := 6, cells := 0, slots := 0, locals := 161 } : Room) s m args below meth c H locs 0 0 (MQ below (va_Qi (fun (r : Int32) (u : Int32 × Int32 × Int32 × (Nat → Int32)) => k r u.1 u.2.1 u.2.2.1 u.2.2.2) (fun (u : Int32 × Int32 × Int32 × (Nat → Int32)) t => va_P (dC, dI) vwCl [(h0, .inr (6, [.ref h1, .ref h2, .int s_length, .int u.1, .int u.2.1])), (h1, .inl (cB, 200, .inl s_bytes)), (h2, .inr (7, [.int (33 : Int32), .int (5 : Int32), .ref h3, .int u.2.2.1])), (h3, .inl (cI, 165, .inl u.2.2.2))] t.heap ∧ va_D A [(h0, .inr (6, [.ref h1, .ref h2, .int s_length, .int u.1, .int u.2.1])), (h1, .inl (cB, 200, .inl s_bytes)), (h2, .inr (7, [.int (33 : Int32), .int (5 : Int32), .ref h3, .int u.2.2.1])), (h3, .inl (cI, 165, .inl u.2.2.2))]) A) args s 0 0 A) (F0 m 21 ls [])) : ∀ (x4 : Int32) (y0 : Int32) (s_place : Int32) (s_next : Int32) (s_items_size : Int32) (s_items_cells : Nat → Int32) (H : Heap) (locs : List Loc) (ls : Array Slot), va_P (dC, dI) vwCl [(h0, .inr (6, [.ref h1, .ref h2, .int s_length, .int s_place, .int s_next])), (h1, .inl (cB, 200, .inl s_bytes)), (h2, .inr (7, [.int (33 : Int32), .int (5 : Int32), .ref h3, .int s_items_size])), (h3, .inl (cI, 165, .inl s_items_cells))] H → va_D A [(h0, .inr (6, [.ref h1, .ref h2, .int s_length, .int s_place, .int s_next])), (h1, .inl (cB, 200, .inl s_bytes)), (h2, .inr (7, [.int (33 : Int32), .int (5 : Int32), .ref h3, .int s_items_size])), (h3, .inl (cI, 165, .inl s_items_cells))] → va_S A s.heap H locs → lv_has ls 7 [(0, .ref h0), (4, .int x4)] → pX6_findFault_71 k kb x4 y0 s_place s_next s_items_size s_items_cells → W p l e ({ frames := 6, cells := 0, slots := 0, locals := 161 } : Room) s m args below meth c H locs 0 0 (MQ below (va_Qi (fun (r : Int32) (u : Int32 × Int32 × Int32 × (Nat → Int32)) => k r u.1 u.2.1 u.2.2.1 u.2.2.2) (fun (u : Int32 × Int32 × Int32 × (Nat → Int32)) t => va_P (dC, dI) vwCl [(h0, .inr (6, [.ref h1, .ref h2, .int s_length, .int u.1, .int u.2.1])), (h1, .inl (cB, 200, .inl s_bytes)), (h2, .inr (7, [.int (33 : Int32), .int (5 : Int32), .ref h3, .int u.2.2.1])), (h3, .inl (cI, 165, .inl u.2.2.2))] t.heap ∧ va_D A [(h0, .inr (6, [.ref h1, .ref h2, .int s_length, .int u.1, .int u.2.1])), (h1, .inl (cB, 200, .inl s_bytes)), (h2, .inr (7, [.int (33 : Int32), .int (5 : Int32), .ref h3, .int u.2.2.1])), (h3, .inl (cI, 165, .inl u.2.2.2))]) A) args s 0 0 A) (F0 m 71 ls [.int y0]) := by
  obtain ⟨hx, hb, hml, hown, hts, hr, hlocks⟩ := id C
  intro x4 y0 s_place s_next s_items_size s_items_cells H locs ls hP hD hS hl hf
  unfold pX6_findFault_71 at hf
  refine lv_istore (lv' := [(6, .int y0), (0, .ref h0), (4, .int x4)]) hx hb dX6_findFault_71 hl (by decide) rfl (fun ls hl => ?_)
  refine lv_iload hx hb dX6_findFault_73 (lv_at hl 0 rfl) ?_
  refine lv_iconst (v := (-1 : Int32)) hx hb dX6_findFault_75 (by decide) ?_
  refine lv_icmp_ne (tgt := 84) hx hb dX6_findFault_76 (by decide) (fun c_14 => ?_) (fun c_14 => ?_)
  · replace hf := hf.2 c_14
    refine lv_aload_n hx hb dX6_findFault_84 rfl (lv_at hl 1 rfl) ?_
    refine va_get (D := (dC, dI)) (ci := 6) (v := .ref h2) (C := RX6) (T := TX6) (N := 5) hx hb hts iX6_findFault_X6 hown hK hP 0 rfl rfl 1 (by decide) (hts _ mX6_findFault_f20) (fun _ h9 => h9) rfl dX6_findFault_85 ?_
    have hPc := hP.sub (ws' := [(h2, .inr (7, [.int (33 : Int32), .int (5 : Int32), .ref h3, .int s_items_size]))]) [2] rfl
    have hDc := hD.sub (ws' := [(h2, .inr (7, [.int (33 : Int32), .int (5 : Int32), .ref h3, .int s_items_size]))]) [2] (by decide) rfl
    have hFc := va_free (wc := [(h2, .inr (7, [.int (33 : Int32), .int (5 : Int32), .ref h3, .int s_items_size]))]) hD hS hA [2] rfl
    refine va_calli (va_runV (As := []) (rest := []) ⟨hx, hb, hml, hown, hts⟩ (metX7_open (sz := H.size) hf) (cwV 0 hts gX6_findFault_X7_open rfl rfl rfl ⟨rfl, kX7_open⟩ ⟨Nat.le_of_ble_eq_true rfl, Nat.le_of_ble_eq_true rfl⟩) ⟨PR.blind, va_recv hK hPc (ci := 7) (q0 := 0) rfl rfl, fun U hU hW => ⟨rfl, PR.go hU hW hPc hDc hK hN⟩⟩ rfl rfl hl.1 rfl (lv_room (Nat.le_of_ble_eq_true rfl)) dX6_findFault_88 ⟨Nat.zero_le _, Nat.zero_le _⟩) hS (fun q _ h => hFc q h) hFc (fun r_15 u t H1 locs ht hvm hf hB hz1 hk1 hS => ?_)
    obtain ⟨s_items_size_15, rfl⟩ : ∃ z, z = u := ⟨_, rfl⟩
    have hP1 : va_P (dC, dI) vwCl [(h2, .inr (7, [.int (33 : Int32), .int (5 : Int32), .ref h3, .int s_items_size_15]))] H1 := by rw [← ht]; exact hB.1
    have hD1 : va_D (va_A [(h2, .inr (7, [.int (33 : Int32), .int (5 : Int32), .ref h3, .int s_items_size]))] H.size) [(h2, .inr (7, [.int (33 : Int32), .int (5 : Int32), .ref h3, .int s_items_size_15]))] := hB.2
    obtain ⟨hP, hD⟩ := jn (wr := [(h0, .inr (6, [.ref h1, .ref h2, .int s_length, .int s_place, .int s_next])), (h1, .inl (cB, 200, .inl s_bytes)), (h3, .inl (cI, 165, .inl s_items_cells))]) (ws' := [(h0, .inr (6, [.ref h1, .ref h2, .int s_length, .int s_place, .int s_next])), (h1, .inl (cB, 200, .inl s_bytes)), (h2, .inr (7, [.int (33 : Int32), .int (5 : Int32), .ref h3, .int s_items_size_15])), (h3, .inl (cI, 165, .inl s_items_cells))]) hP hD [2] [0, 1, 3] rfl rfl (by decide) (by decide) hk1 hFc hP1 hD1 [0, 1, 3, 2] (by decide) rfl
    clear hP1 hD1 hB hk1 hz1 hvm ht hPc hDc hFc
    generalize H1 = H at hP hS ⊢
    try dsimp only at hf
    refine lv_istore_n (lv' := [(2, .int r_15), (6, .int y0), (0, .ref h0), (4, .int x4)]) hx hb dX6_findFault_91 rfl hl (by decide) rfl (fun ls hl => ?_)
    refine lv_aload_n hx hb dX6_findFault_92 rfl (lv_at hl 2 rfl) ?_
    refine va_get (D := (dC, dI)) (ci := 6) (v := .ref h2) (C := RX6) (T := TX6) (N := 5) hx hb hts iX6_findFault_X6 hown hK hP 0 rfl rfl 1 (by decide) (hts _ mX6_findFault_f20) (fun _ h9 => h9) rfl dX6_findFault_93 ?_
    refine lv_iload_n hx hb dX6_findFault_96 rfl (lv_at hl 0 rfl) ?_
    refine lv_iconst (v := (0 : Int32)) hx hb dX6_findFault_97 (by decide) ?_
    refine lv_iload hx hb dX6_findFault_98 (lv_at hl 1 rfl) ?_
    have hPc := hP.sub (ws' := [(h2, .inr (7, [.int (33 : Int32), .int (5 : Int32), .ref h3, .int s_items_size_15])), (h3, .inl (cI, 165, .inl s_items_cells))]) [2, 3] rfl
    have hDc := hD.sub (ws' := [(h2, .inr (7, [.int (33 : Int32), .int (5 : Int32), .ref h3, .int s_items_size_15])), (h3, .inl (cI, 165, .inl s_items_cells))]) [2, 3] (by decide) rfl
    have hFc := va_free (wc := [(h2, .inr (7, [.int (33 : Int32), .int (5 : Int32), .ref h3, .int s_items_size_15])), (h3, .inl (cI, 165, .inl s_items_cells))]) hD hS hA [2, 3] rfl
    refine va_callv (va_runV (As := [.int r_15, .int (0 : Int32), .int y0]) (rest := []) ⟨hx, hb, hml, hown, hts⟩ (metX7_put (sz := H.size) hf) (cwV 3 hts gX6_findFault_X7_put rfl rfl rfl ⟨rfl, kX7_put⟩ ⟨Nat.le_of_ble_eq_true rfl, Nat.le_of_ble_eq_true rfl⟩) ⟨PR.blind, va_recv hK hPc (ci := 7) (q0 := 0) rfl rfl, fun U hU hW => ⟨rfl, PR.go hU hW hPc hDc hK hN⟩⟩ rfl rfl hl.1 rfl (lv_room (Nat.le_of_ble_eq_true rfl)) dX6_findFault_100 ⟨Nat.zero_le _, Nat.zero_le _⟩) hS (fun q _ h => hFc q h) hFc (fun u t H1 locs ht hvm hf hB hz1 hk1 hS => ?_)
    obtain ⟨s_items_cells_16, rfl⟩ : ∃ z, z = u := ⟨_, rfl⟩
    have hP1 : va_P (dC, dI) vwCl [(h2, .inr (7, [.int (33 : Int32), .int (5 : Int32), .ref h3, .int s_items_size_15])), (h3, .inl (cI, 165, .inl s_items_cells_16))] H1 := by rw [← ht]; exact hB.1
    have hD1 : va_D (va_A [(h2, .inr (7, [.int (33 : Int32), .int (5 : Int32), .ref h3, .int s_items_size_15])), (h3, .inl (cI, 165, .inl s_items_cells))] H.size) [(h2, .inr (7, [.int (33 : Int32), .int (5 : Int32), .ref h3, .int s_items_size_15])), (h3, .inl (cI, 165, .inl s_items_cells_16))] := hB.2
    obtain ⟨hP, hD⟩ := jn (wr := [(h0, .inr (6, [.ref h1, .ref h2, .int s_length, .int s_place, .int s_next])), (h1, .inl (cB, 200, .inl s_bytes))]) (ws' := [(h0, .inr (6, [.ref h1, .ref h2, .int s_length, .int s_place, .int s_next])), (h1, .inl (cB, 200, .inl s_bytes)), (h2, .inr (7, [.int (33 : Int32), .int (5 : Int32), .ref h3, .int s_items_size_15])), (h3, .inl (cI, 165, .inl s_items_cells_16))]) hP hD [2, 3] [0, 1] rfl rfl (by decide) (by decide) hk1 hFc hP1 hD1 [0, 1, 2, 3] (by decide) rfl
    clear hP1 hD1 hB hk1 hz1 hvm ht hPc hDc hFc
    generalize H1 = H at hP hS ⊢
    try dsimp only at hf
    refine lv_iconst (v := (1 : Int32)) hx hb dX6_findFault_103 (by decide) ?_
    refine lv_istore_n (lv' := [(1, .int (1 : Int32)), (2, .int r_15), (6, .int y0), (0, .ref h0), (4, .int x4)]) hx hb dX6_findFault_104 rfl hl (by decide) rfl (fun ls hl => ?_)
    refine lv_iconst (v := (0 : Int32)) hx hb dX6_findFault_105 (by decide) ?_
    refine lv_istore_n (lv' := [(3, .int (0 : Int32)), (1, .int (1 : Int32)), (2, .int r_15), (6, .int y0), (0, .ref h0), (4, .int x4)]) hx hb dX6_findFault_106 rfl hl (by decide) rfl (fun ls hl => ?_)
    refine lv_goto (tgt := 169) hx hb dX6_findFault_107 (by decide) ?_
    refine lv_iinc (v := (x4 + 1)) (lv' := [(4, .int (x4 + 1)), (3, .int (0 : Int32)), (1, .int (1 : Int32)), (2, .int r_15), (6, .int y0), (0, .ref h0)]) hx hb dX6_findFault_169 hl (k := 5) rfl (by rfl) (by decide) rfl (fun ls hl => ?_)
    refine lv_goto (tgt := 21) hx hb dX6_findFault_172 (by decide) ?_
    exact hkb (1 : Int32) r_15 (0 : Int32) (x4 + 1) s_place s_next s_items_size_15 s_items_cells_16 H locs ls hP hD hS (lv_sub hl [5, 2, 3, 1, 0] rfl) hf
  · replace hf := hf.1 c_14
    refine lv_aload_n hx hb dX6_findFault_79 rfl (lv_at hl 1 rfl) ?_
    refine va_get (D := (dC, dI)) (ci := 6) (v := .int s_place) (C := RX6) (T := TX6) (N := 5) hx hb hts iX6_findFault_X6 hown hK hP 0 rfl rfl 3 (by decide) (hts _ mX6_findFault_f28) (fun _ h9 => h9) rfl dX6_findFault_80 ?_
    exact W.iret (v := s_place) hx hb hr (fun t ht hW => ⟨⟨s_place, (s_place, s_next, s_items_size, s_items_cells), rfl, hf, by rw [ht]; exact hP, hD⟩, hS.F ht⟩) hS.2.2 dX6_findFault_83
set_option maxHeartbeats 4000000 in
set_option maxRecDepth 100000 in
theorem wX6_findFault_21 {p : Program} {e : Env} {s : State} {m : MethodId} {args : Array Value} {below : List Frame} {meth : Method} {c : Code} (C : CX p s m args meth c cX6_findFault 7 wsX6_findFault RX6 (some .int)) (hK : va_K (dC, dI) vwCl (TYS cI cL cB cZ cT cR) s) (hN : NW s) {A : Nat → Prop} (hSF : SF nb adK adV s s.heap) (hnb : ∀ q, A q → nb ≤ q) (hA : ∀ q : Nat, s.heap.size ≤ q → A q) {h0 h1 h2 h3 : Nat} {s_length : Int32} {s_bytes : Nat → Int32} {k : Int32 → Int32 → Int32 → Int32 → (Nat → Int32) → Prop} {kx : Int32 → Int32 → Int32 → (Nat → Int32) → Prop} (hkx : ∀ (s_place : Int32) (s_next : Int32) (s_items_size : Int32) (s_items_cells : Nat → Int32) (H : Heap) (locs : List Loc) (ls : Array Slot), va_P (dC, dI) vwCl [(h0, .inr (6, [.ref h1, .ref h2, .int s_length, .int s_place, .int s_next])), (h1, .inl (cB, 200, .inl s_bytes)), (h2, .inr (7, [.int (33 : Int32), .int (5 : Int32), .ref h3, .int s_items_size])), (h3, .inl (cI, 165, .inl s_items_cells))] H → va_D A [(h0, .inr (6, [.ref h1, .ref h2, .int s_length, .int s_place, .int s_next])), (h1, .inl (cB, 200, .inl s_bytes)), (h2, .inr (7, [.int (33 : Int32), .int (5 : Int32), .ref h3, .int s_items_size])), (h3, .inl (cI, 165, .inl s_items_cells))] → va_S A s.heap H locs → lv_has ls 7 [(0, .ref h0)] → kx s_place s_next s_items_size s_items_cells → W p l e ({ frames := 6, cells := 0, slots := 0, locals := 161 } : Room) s m args below meth c H locs 0 0 (MQ below (va_Qi (fun (r : Int32) (u : Int32 × Int32 × Int32 × (Nat → Int32)) => k r u.1 u.2.1 u.2.2.1 u.2.2.2) (fun (u : Int32 × Int32 × Int32 × (Nat → Int32)) t => va_P (dC, dI) vwCl [(h0, .inr (6, [.ref h1, .ref h2, .int s_length, .int u.1, .int u.2.1])), (h1, .inl (cB, 200, .inl s_bytes)), (h2, .inr (7, [.int (33 : Int32), .int (5 : Int32), .ref h3, .int u.2.2.1])), (h3, .inl (cI, 165, .inl u.2.2.2))] t.heap ∧ va_D A [(h0, .inr (6, [.ref h1, .ref h2, .int s_length, .int u.1, .int u.2.1])), (h1, .inl (cB, 200, .inl s_bytes)), (h2, .inr (7, [.int (33 : Int32), .int (5 : Int32), .ref h3, .int u.2.2.1])), (h3, .inl (cI, 165, .inl u.2.2.2))]) A) args s 0 0 A) (F0 m 175 ls [])) : ∀ (n21 : Nat), ∀ (x1 : Int32) (x2 : Int32) (x3 : Int32) (x4 : Int32) (s_place : Int32) (s_next : Int32) (s_items_size : Int32) (s_items_cells : Nat → Int32) (H : Heap) (locs : List Loc) (ls : Array Slot), va_P (dC, dI) vwCl [(h0, .inr (6, [.ref h1, .ref h2, .int s_length, .int s_place, .int s_next])), (h1, .inl (cB, 200, .inl s_bytes)), (h2, .inr (7, [.int (33 : Int32), .int (5 : Int32), .ref h3, .int s_items_size])), (h3, .inl (cI, 165, .inl s_items_cells))] H → va_D A [(h0, .inr (6, [.ref h1, .ref h2, .int s_length, .int s_place, .int s_next])), (h1, .inl (cB, 200, .inl s_bytes)), (h2, .inr (7, [.int (33 : Int32), .int (5 : Int32), .ref h3, .int s_items_size])), (h3, .inl (cI, 165, .inl s_items_cells))] → va_S A s.heap H locs → lv_has ls 7 [(0, .ref h0), (1, .int x1), (2, .int x2), (3, .int x3), (4, .int x4)] → pX6_findFault_21 s_length s_bytes k kx n21 x1 x2 x3 x4 s_place s_next s_items_size s_items_cells → W p l e ({ frames := 6, cells := 0, slots := 0, locals := 161 } : Room) s m args below meth c H locs 0 0 (MQ below (va_Qi (fun (r : Int32) (u : Int32 × Int32 × Int32 × (Nat → Int32)) => k r u.1 u.2.1 u.2.2.1 u.2.2.2) (fun (u : Int32 × Int32 × Int32 × (Nat → Int32)) t => va_P (dC, dI) vwCl [(h0, .inr (6, [.ref h1, .ref h2, .int s_length, .int u.1, .int u.2.1])), (h1, .inl (cB, 200, .inl s_bytes)), (h2, .inr (7, [.int (33 : Int32), .int (5 : Int32), .ref h3, .int u.2.2.1])), (h3, .inl (cI, 165, .inl u.2.2.2))] t.heap ∧ va_D A [(h0, .inr (6, [.ref h1, .ref h2, .int s_length, .int u.1, .int u.2.1])), (h1, .inl (cB, 200, .inl s_bytes)), (h2, .inr (7, [.int (33 : Int32), .int (5 : Int32), .ref h3, .int u.2.2.1])), (h3, .inl (cI, 165, .inl u.2.2.2))]) A) args s 0 0 A) (F0 m 21 ls []) := by
  obtain ⟨hx, hb, hml, hown, hts, hr, hlocks⟩ := id C
  intro n21
  induction n21 with
  | zero =>
    intro x1 x2 x3 x4 s_place s_next s_items_size s_items_cells H locs ls hP hD hS hl hf
    rw [pX6_findFault_21] at hf
    exact hf.elim
  | succ n21 ih =>
    intro x1 x2 x3 x4 s_place s_next s_items_size s_items_cells H locs ls hP hD hS hl hf
    rw [pX6_findFault_21] at hf
    refine lv_iload hx hb dX6_findFault_21 (lv_at hl 4 rfl) ?_
    refine lv_sipush (v := (200 : Int32)) hx hb dX6_findFault_23 (by decide) ?_
    refine lv_icmp_gt (tgt := 175) hx hb dX6_findFault_26 (by decide) (fun c_2 => ?_) (fun c_2 => ?_)
    · replace hf := hf.1 c_2
      exact hkx s_place s_next s_items_size s_items_cells H locs ls hP hD hS (lv_sub hl [0] rfl) hf
    · replace hf := hf.2 c_2
      refine lv_aload_n hx hb dX6_findFault_29 rfl (lv_at hl 0 rfl) ?_
      have hPc := hP.sub (ws' := [(h0, .inr (6, [.ref h1, .ref h2, .int s_length, .int s_place, .int s_next])), (h1, .inl (cB, 200, .inl s_bytes))]) [0, 1] rfl
      have hDc := hD.sub (ws' := [(h0, .inr (6, [.ref h1, .ref h2, .int s_length, .int s_place, .int s_next])), (h1, .inl (cB, 200, .inl s_bytes))]) [0, 1] (by decide) rfl
      have hFc := va_free (wc := [(h0, .inr (6, [.ref h1, .ref h2, .int s_length, .int s_place, .int s_next])), (h1, .inl (cB, 200, .inl s_bytes))]) hD hS hA [0, 1] rfl
      refine va_calli (va_runV (As := []) (rest := []) ⟨hx, hb, hml, hown, hts⟩ (metX6_nextToken (sz := H.size) hf) (cwV 0 hts gX6_findFault_X6_nextToken rfl rfl rfl ⟨rfl, kX6_nextToken⟩ ⟨Nat.le_of_ble_eq_true rfl, Nat.le_of_ble_eq_true rfl⟩) ⟨PR.blind, va_recv hK hPc (ci := 6) (q0 := 0) rfl rfl, fun U hU hW => ⟨rfl, PR.go hU hW hPc hDc hK hN⟩⟩ rfl rfl hl.1 rfl (lv_room (Nat.le_of_ble_eq_true rfl)) dX6_findFault_30 ⟨Nat.zero_le _, Nat.zero_le _⟩) hS (fun q _ h => hFc q h) hFc (fun r_3 u t H1 locs ht hvm hf hB hz1 hk1 hS => ?_)
      obtain ⟨s_place_3, s_next_3⟩ := u
      have hP1 : va_P (dC, dI) vwCl [(h0, .inr (6, [.ref h1, .ref h2, .int s_length, .int s_place_3, .int s_next_3])), (h1, .inl (cB, 200, .inl s_bytes))] H1 := by rw [← ht]; exact hB.1
      have hD1 : va_D (va_A [(h0, .inr (6, [.ref h1, .ref h2, .int s_length, .int s_place, .int s_next])), (h1, .inl (cB, 200, .inl s_bytes))] H.size) [(h0, .inr (6, [.ref h1, .ref h2, .int s_length, .int s_place_3, .int s_next_3])), (h1, .inl (cB, 200, .inl s_bytes))] := hB.2
      obtain ⟨hP, hD⟩ := jn (wr := [(h2, .inr (7, [.int (33 : Int32), .int (5 : Int32), .ref h3, .int s_items_size])), (h3, .inl (cI, 165, .inl s_items_cells))]) (ws' := [(h0, .inr (6, [.ref h1, .ref h2, .int s_length, .int s_place_3, .int s_next_3])), (h1, .inl (cB, 200, .inl s_bytes)), (h2, .inr (7, [.int (33 : Int32), .int (5 : Int32), .ref h3, .int s_items_size])), (h3, .inl (cI, 165, .inl s_items_cells))]) hP hD [0, 1] [2, 3] rfl rfl (by decide) (by decide) hk1 hFc hP1 hD1 [2, 3, 0, 1] (by decide) rfl
      clear hP1 hD1 hB hk1 hz1 hvm ht hPc hDc hFc
      generalize H1 = H at hP hS ⊢
      try dsimp only at hf
      refine lv_istore (lv' := [(5, .int r_3), (0, .ref h0), (1, .int x1), (2, .int x2), (3, .int x3), (4, .int x4)]) hx hb dX6_findFault_33 hl (by decide) rfl (fun ls hl => ?_)
      refine lv_iload hx hb dX6_findFault_35 (lv_at hl 0 rfl) ?_
      refine lv_if_ne (tgt := 53) hx hb dX6_findFault_37 (by decide) (fun c_4 => ?_) (fun c_4 => ?_)
      · replace hf := hf.2 c_4
        refine lv_iload_n hx hb dX6_findFault_53 rfl (lv_at hl 2 rfl) ?_
        refine lv_if_ne (tgt := 110) hx hb dX6_findFault_54 (by decide) (fun c_5 => ?_) (fun c_5 => ?_)
        · replace hf := hf.2 c_5
          refine lv_iload_n hx hb dX6_findFault_110 rfl (lv_at hl 4 rfl) ?_
          refine lv_aload_n hx hb dX6_findFault_111 rfl (lv_at hl 1 rfl) ?_
          refine va_get (D := (dC, dI)) (ci := 6) (v := .ref h2) (C := RX6) (T := TX6) (N := 5) hx hb hts iX6_findFault_X6 hown hK hP 0 rfl rfl 1 (by decide) (hts _ mX6_findFault_f20) (fun _ h9 => h9) rfl dX6_findFault_112 ?_
          refine lv_iload_n hx hb dX6_findFault_115 rfl (lv_at hl 3 rfl) ?_
          refine lv_iconst (v := (0 : Int32)) hx hb dX6_findFault_116 (by decide) ?_
          have hPc := hP.sub (ws' := [(h2, .inr (7, [.int (33 : Int32), .int (5 : Int32), .ref h3, .int s_items_size])), (h3, .inl (cI, 165, .inl s_items_cells))]) [2, 3] rfl
          refine ro_calli (va_runV (As := [.int x2, .int (0 : Int32)]) (rest := [.int x3]) ⟨hx, hb, hml, hown, hts⟩ (metX7_at hf) (cwV 2 hts gX6_findFault_X7_at rfl rfl rfl ⟨rfl, kX7_at⟩ ⟨Nat.le_of_ble_eq_true rfl, Nat.le_of_ble_eq_true rfl⟩) ⟨PW.blind, va_recv hK hPc (ci := 7) (q0 := 0) rfl rfl, fun U hU hW => ⟨rfl, PW.go hU hW hPc hK hN⟩⟩ rfl rfl hl.1 rfl (lv_room (Nat.le_of_ble_eq_true rfl)) dX6_findFault_117 ⟨Nat.zero_le _, Nat.zero_le _⟩) (fun r_6 hf => ?_)
          have hPc := hP.sub (ws' := []) [] rfl
          refine ro_calli (va_runS (As := [.int r_6]) (rest := [.int x3]) ⟨hx, hb, hml, hown, hts⟩ (metX6_numbersIn hf) (va_cwS 1 hts gX6_findFault_X6_numbersIn rfl rfl rfl kX6_numbersIn ⟨Nat.le_of_ble_eq_true rfl, Nat.le_of_ble_eq_true rfl⟩) ⟨PW.blind, fun U hU hW => ⟨rfl, PW.go hU hW hPc hK hN⟩⟩ rfl rfl hl.1 rfl (lv_room (Nat.le_of_ble_eq_true rfl)) dX6_findFault_120 ⟨Nat.zero_le _, Nat.zero_le _⟩) (fun r_7 hf => ?_)
          refine lv_icmp_ge (tgt := 156) hx hb dX6_findFault_123 (by decide) (fun c_8 => ?_) (fun c_8 => ?_)
          · replace hf := hf.1 c_8
            refine lv_iload hx hb dX6_findFault_156 (lv_at hl 0 rfl) ?_
            refine lv_iconst (v := (3 : Int32)) hx hb dX6_findFault_158 (by decide) ?_
            refine lv_icmp_eq (tgt := 167) hx hb dX6_findFault_159 (by decide) (fun c_9 => ?_) (fun c_9 => ?_)
            · replace hf := hf.1 c_9
              refine lv_iconst (v := (0 : Int32)) hx hb dX6_findFault_167 (by decide) ?_
              refine lv_istore_n (lv' := [(1, .int (0 : Int32)), (5, .int r_3), (0, .ref h0), (2, .int x2), (3, .int x3), (4, .int x4)]) hx hb dX6_findFault_168 rfl hl (by decide) rfl (fun ls hl => ?_)
              refine lv_iinc (v := (x4 + 1)) (lv' := [(4, .int (x4 + 1)), (1, .int (0 : Int32)), (5, .int r_3), (0, .ref h0), (2, .int x2), (3, .int x3)]) hx hb dX6_findFault_169 hl (k := 5) rfl (by rfl) (by decide) rfl (fun ls hl => ?_)
              refine lv_goto (tgt := 21) hx hb dX6_findFault_172 (by decide) ?_
              exact ih (0 : Int32) x2 x3 (x4 + 1) s_place_3 s_next_3 s_items_size s_items_cells H locs ls hP hD hS (lv_sub hl [3, 1, 4, 5, 0] rfl) hf
            · replace hf := hf.2 c_9
              refine lv_aload_n hx hb dX6_findFault_162 rfl (lv_at hl 1 rfl) ?_
              refine va_get (D := (dC, dI)) (ci := 6) (v := .int s_place_3) (C := RX6) (T := TX6) (N := 5) hx hb hts iX6_findFault_X6 hown hK hP 0 rfl rfl 3 (by decide) (hts _ mX6_findFault_f28) (fun _ h9 => h9) rfl dX6_findFault_163 ?_
              exact W.iret (v := s_place_3) hx hb hr (fun t ht hW => ⟨⟨s_place_3, (s_place_3, s_next_3, s_items_size, s_items_cells), rfl, hf, by rw [ht]; exact hP, hD⟩, hS.F ht⟩) hS.2.2 dX6_findFault_166
          · replace hf := hf.2 c_8
            refine lv_iload hx hb dX6_findFault_126 (lv_at hl 0 rfl) ?_
            refine lv_iconst (v := (2 : Int32)) hx hb dX6_findFault_128 (by decide) ?_
            refine lv_icmp_eq (tgt := 137) hx hb dX6_findFault_129 (by decide) (fun c_10 => ?_) (fun c_10 => ?_)
            · replace hf := hf.1 c_10
              refine lv_iinc (v := (x3 + 1)) (lv' := [(3, .int (x3 + 1)), (5, .int r_3), (0, .ref h0), (1, .int x1), (2, .int x2), (4, .int x4)]) hx hb dX6_findFault_137 hl (k := 4) rfl (by rfl) (by decide) rfl (fun ls hl => ?_)
              refine lv_aload_n hx hb dX6_findFault_140 rfl (lv_at hl 2 rfl) ?_
              refine va_get (D := (dC, dI)) (ci := 6) (v := .ref h2) (C := RX6) (T := TX6) (N := 5) hx hb hts iX6_findFault_X6 hown hK hP 0 rfl rfl 1 (by decide) (hts _ mX6_findFault_f20) (fun _ h9 => h9) rfl dX6_findFault_141 ?_
              refine lv_iload_n hx hb dX6_findFault_144 rfl (lv_at hl 4 rfl) ?_
              refine lv_iload_n hx hb dX6_findFault_145 rfl (lv_at hl 0 rfl) ?_
              refine lv_aload_n hx hb dX6_findFault_146 rfl (lv_at hl 2 rfl) ?_
              have hPc := hP.sub (ws' := [(h0, .inr (6, [.ref h1, .ref h2, .int s_length, .int s_place_3, .int s_next_3])), (h1, .inl (cB, 200, .inl s_bytes))]) [0, 1] rfl
              refine ro_calli (va_runV (As := []) (rest := [.int (x3 + 1), .int x2, .ref h2]) ⟨hx, hb, hml, hown, hts⟩ (metX6_numberAtHand hf) (cwV 0 hts gX6_findFault_X6_numberAtHand rfl rfl rfl ⟨rfl, kX6_numberAtHand⟩ ⟨Nat.le_of_ble_eq_true rfl, Nat.le_of_ble_eq_true rfl⟩) ⟨PW.blind, va_recv hK hPc (ci := 6) (q0 := 0) rfl rfl, fun U hU hW => ⟨rfl, PW.go hU hW hPc hK hN⟩⟩ rfl rfl hl.1 rfl (lv_room (Nat.le_of_ble_eq_true rfl)) dX6_findFault_147 ⟨Nat.zero_le _, Nat.zero_le _⟩) (fun r_11 hf => ?_)
              have hPc := hP.sub (ws' := [(h2, .inr (7, [.int (33 : Int32), .int (5 : Int32), .ref h3, .int s_items_size])), (h3, .inl (cI, 165, .inl s_items_cells))]) [2, 3] rfl
              have hDc := hD.sub (ws' := [(h2, .inr (7, [.int (33 : Int32), .int (5 : Int32), .ref h3, .int s_items_size])), (h3, .inl (cI, 165, .inl s_items_cells))]) [2, 3] (by decide) rfl
              have hFc := va_free (wc := [(h2, .inr (7, [.int (33 : Int32), .int (5 : Int32), .ref h3, .int s_items_size])), (h3, .inl (cI, 165, .inl s_items_cells))]) hD hS hA [2, 3] rfl
              refine va_callv (va_runV (As := [.int x2, .int (x3 + 1), .int r_11]) (rest := []) ⟨hx, hb, hml, hown, hts⟩ (metX7_put (sz := H.size) hf) (cwV 3 hts gX6_findFault_X7_put rfl rfl rfl ⟨rfl, kX7_put⟩ ⟨Nat.le_of_ble_eq_true rfl, Nat.le_of_ble_eq_true rfl⟩) ⟨PR.blind, va_recv hK hPc (ci := 7) (q0 := 0) rfl rfl, fun U hU hW => ⟨rfl, PR.go hU hW hPc hDc hK hN⟩⟩ rfl rfl hl.1 rfl (lv_room (Nat.le_of_ble_eq_true rfl)) dX6_findFault_150 ⟨Nat.zero_le _, Nat.zero_le _⟩) hS (fun q _ h => hFc q h) hFc (fun u t H1 locs ht hvm hf hB hz1 hk1 hS => ?_)
              obtain ⟨s_items_cells_12, rfl⟩ : ∃ z, z = u := ⟨_, rfl⟩
              have hP1 : va_P (dC, dI) vwCl [(h2, .inr (7, [.int (33 : Int32), .int (5 : Int32), .ref h3, .int s_items_size])), (h3, .inl (cI, 165, .inl s_items_cells_12))] H1 := by rw [← ht]; exact hB.1
              have hD1 : va_D (va_A [(h2, .inr (7, [.int (33 : Int32), .int (5 : Int32), .ref h3, .int s_items_size])), (h3, .inl (cI, 165, .inl s_items_cells))] H.size) [(h2, .inr (7, [.int (33 : Int32), .int (5 : Int32), .ref h3, .int s_items_size])), (h3, .inl (cI, 165, .inl s_items_cells_12))] := hB.2
              obtain ⟨hP, hD⟩ := jn (wr := [(h0, .inr (6, [.ref h1, .ref h2, .int s_length, .int s_place_3, .int s_next_3])), (h1, .inl (cB, 200, .inl s_bytes))]) (ws' := [(h0, .inr (6, [.ref h1, .ref h2, .int s_length, .int s_place_3, .int s_next_3])), (h1, .inl (cB, 200, .inl s_bytes)), (h2, .inr (7, [.int (33 : Int32), .int (5 : Int32), .ref h3, .int s_items_size])), (h3, .inl (cI, 165, .inl s_items_cells_12))]) hP hD [2, 3] [0, 1] rfl rfl (by decide) (by decide) hk1 hFc hP1 hD1 [0, 1, 2, 3] (by decide) rfl
              clear hP1 hD1 hB hk1 hz1 hvm ht hPc hDc hFc
              generalize H1 = H at hP hS ⊢
              try dsimp only at hf
              refine lv_goto (tgt := 169) hx hb dX6_findFault_153 (by decide) ?_
              refine lv_iinc (v := (x4 + 1)) (lv' := [(4, .int (x4 + 1)), (3, .int (x3 + 1)), (5, .int r_3), (0, .ref h0), (1, .int x1), (2, .int x2)]) hx hb dX6_findFault_169 hl (k := 5) rfl (by rfl) (by decide) rfl (fun ls hl => ?_)
              refine lv_goto (tgt := 21) hx hb dX6_findFault_172 (by decide) ?_
              exact ih x1 x2 (x3 + 1) (x4 + 1) s_place_3 s_next_3 s_items_size s_items_cells_12 H locs ls hP hD hS (lv_sub hl [3, 4, 5, 1, 0] rfl) hf
            · replace hf := hf.2 c_10
              refine lv_aload_n hx hb dX6_findFault_132 rfl (lv_at hl 1 rfl) ?_
              refine va_get (D := (dC, dI)) (ci := 6) (v := .int s_place_3) (C := RX6) (T := TX6) (N := 5) hx hb hts iX6_findFault_X6 hown hK hP 0 rfl rfl 3 (by decide) (hts _ mX6_findFault_f28) (fun _ h9 => h9) rfl dX6_findFault_133 ?_
              exact W.iret (v := s_place_3) hx hb hr (fun t ht hW => ⟨⟨s_place_3, (s_place_3, s_next_3, s_items_size, s_items_cells), rfl, hf, by rw [ht]; exact hP, hD⟩, hS.F ht⟩) hS.2.2 dX6_findFault_136
        · replace hf := hf.1 c_5
          refine lv_iload hx hb dX6_findFault_57 (lv_at hl 0 rfl) ?_
          refine lv_iconst (v := (1 : Int32)) hx hb dX6_findFault_59 (by decide) ?_
          refine lv_icmp_ne (tgt := 70) hx hb dX6_findFault_60 (by decide) (fun c_13 => ?_) (fun c_13 => ?_)
          · replace hf := hf.2 c_13
            refine lv_iconst (v := (-1 : Int32)) hx hb dX6_findFault_70 (by decide) ?_
            exact wX6_findFault_71 C hK hN hSF hnb hA ih x4 (-1 : Int32) s_place_3 s_next_3 s_items_size s_items_cells H locs ls hP hD hS (lv_sub hl [1, 5] rfl) hf
          · replace hf := hf.1 c_13
            refine lv_aload_n hx hb dX6_findFault_63 rfl (lv_at hl 1 rfl) ?_
            have hPc := hP.sub (ws' := [(h0, .inr (6, [.ref h1, .ref h2, .int s_length, .int s_place_3, .int s_next_3])), (h1, .inl (cB, 200, .inl s_bytes))]) [0, 1] rfl
            refine ro_calli (va_runV (As := []) (rest := []) ⟨hx, hb, hml, hown, hts⟩ (metX6_wordAtHand (nb := nb) (adK := adK) (adV := adV) hf) (cwV 0 hts gX6_findFault_X6_wordAtHand rfl rfl rfl ⟨rfl, kX6_wordAtHand⟩ ⟨Nat.le_of_ble_eq_true rfl, Nat.le_of_ble_eq_true rfl⟩) ⟨PWS.blind, va_recv hK hPc (ci := 6) (q0 := 0) rfl rfl, fun U hU hW => ⟨rfl, PW.go hU hW hPc hK hN, SF.go hU hW (hSF.keep hS hnb)⟩⟩ rfl rfl hl.1 rfl (lv_room (Nat.le_of_ble_eq_true rfl)) dX6_findFault_64 ⟨Nat.zero_le _, Nat.zero_le _⟩) (fun r_17 hf => ?_)
            refine lv_goto (tgt := 71) hx hb dX6_findFault_67 (by decide) ?_
            exact wX6_findFault_71 C hK hN hSF hnb hA ih x4 r_17 s_place_3 s_next_3 s_items_size s_items_cells H locs ls hP hD hS (lv_sub hl [1, 5] rfl) hf
      · replace hf := hf.1 c_4
        refine lv_iload_n hx hb dX6_findFault_40 rfl (lv_at hl 2 rfl) ?_
        refine lv_if_eq (tgt := 51) hx hb dX6_findFault_41 (by decide) (fun c_18 => ?_) (fun c_18 => ?_)
        · replace hf := hf.1 c_18
          refine lv_iconst (v := (-1 : Int32)) hx hb dX6_findFault_51 (by decide) ?_
          exact W.iret (v := (-1 : Int32)) hx hb hr (fun t ht hW => ⟨⟨(-1 : Int32), (s_place_3, s_next_3, s_items_size, s_items_cells), rfl, hf, by rw [ht]; exact hP, hD⟩, hS.F ht⟩) hS.2.2 dX6_findFault_52
        · replace hf := hf.2 c_18
          refine lv_aload_n hx hb dX6_findFault_44 rfl (lv_at hl 1 rfl) ?_
          refine va_get (D := (dC, dI)) (ci := 6) (v := .int s_length) (C := RX6) (T := TX6) (N := 5) hx hb hts iX6_findFault_X6 hown hK hP 0 rfl rfl 2 (by decide) (hts _ mX6_findFault_f24) (fun _ h9 => h9) rfl dX6_findFault_45 ?_
          refine lv_goto (tgt := 52) hx hb dX6_findFault_48 (by decide) ?_
          exact W.iret (v := s_length) hx hb hr (fun t ht hW => ⟨⟨s_length, (s_place_3, s_next_3, s_items_size, s_items_cells), rfl, hf, by rw [ht]; exact hP, hD⟩, hS.F ht⟩) hS.2.2 dX6_findFault_52
set_option maxHeartbeats 4000000 in
set_option maxRecDepth 100000 in
theorem metX6_findFault {h0 h1 h2 h3 : Nat} {s_length s_place s_next s_items_size : Int32} {s_bytes s_items_cells : Nat → Int32}  {sz : Nat} {k : Int32 → Int32 → Int32 → Int32 → (Nat → Int32) → Prop} (hf : pX6_findFault s_length s_place s_next s_bytes s_items_size s_items_cells k) : Met l yX6_findFault wsX6_findFault ({ frames := 6, cells := 0, slots := 0, locals := 161 } : Room) (va_Pc [.ref h0] (PRS dC dI (TYS cI cL cB cZ cT cR) [(h0, .inr (6, [.ref h1, .ref h2, .int s_length, .int s_place, .int s_next])), (h1, .inl (cB, 200, .inl s_bytes)), (h2, .inr (7, [.int (33 : Int32), .int (5 : Int32), .ref h3, .int s_items_size])), (h3, .inl (cI, 165, .inl s_items_cells))] sz nb adK adV)) (va_Qi (fun (r : Int32) (u : Int32 × Int32 × Int32 × (Nat → Int32)) => k r u.1 u.2.1 u.2.2.1 u.2.2.2) (fun (u : Int32 × Int32 × Int32 × (Nat → Int32)) t => va_P (dC, dI) vwCl [(h0, .inr (6, [.ref h1, .ref h2, .int s_length, .int u.1, .int u.2.1])), (h1, .inl (cB, 200, .inl s_bytes)), (h2, .inr (7, [.int (33 : Int32), .int (5 : Int32), .ref h3, .int u.2.2.1])), (h3, .inl (cI, 165, .inl u.2.2.2))] t.heap ∧ va_D (va_A [(h0, .inr (6, [.ref h1, .ref h2, .int s_length, .int s_place, .int s_next])), (h1, .inl (cB, 200, .inl s_bytes)), (h2, .inr (7, [.int (33 : Int32), .int (5 : Int32), .ref h3, .int s_items_size])), (h3, .inl (cI, 165, .inl s_items_cells))] sz) [(h0, .inr (6, [.ref h1, .ref h2, .int s_length, .int u.1, .int u.2.1])), (h1, .inl (cB, 200, .inl s_bytes)), (h2, .inr (7, [.int (33 : Int32), .int (5 : Int32), .ref h3, .int u.2.2.1])), (h3, .inl (cI, 165, .inl u.2.2.2))]) (va_A [(h0, .inr (6, [.ref h1, .ref h2, .int s_length, .int s_place, .int s_next])), (h1, .inl (cB, 200, .inl s_bytes)), (h2, .inr (7, [.int (33 : Int32), .int (5 : Int32), .ref h3, .int s_items_size])), (h3, .inl (cI, 165, .inl s_items_cells))] sz)) 0 0 (va_A [(h0, .inr (6, [.ref h1, .ref h2, .int s_length, .int s_place, .int s_next])), (h1, .inl (cB, 200, .inl s_bytes)), (h2, .inr (7, [.int (33 : Int32), .int (5 : Int32), .ref h3, .int s_items_size])), (h3, .inl (cI, 165, .inl s_items_cells))] sz) := by
  refine Met.ofW (cc := cX6_findFault) (maxL := 7) (ret := (some .int)) (by decide) rfl ?_
  intro p e s m args below meth c s₁ B hml hv
  obtain ⟨rfl, ⟨hsz, hP, hK, hN, hD0⟩, hSF, hnb⟩ := hv
  have C : CX p s m _ meth c cX6_findFault 7 wsX6_findFault RX6 (some .int) := ⟨B.exec, B.bytes, hml, findClass_of_methodNamed B.named, atoms_spec (ws := wsX6_findFault) B.pre, B.returns, B.notSynchronized⟩
  obtain ⟨hx, hb, -, hown, hts, hr, hlocks⟩ := id C
  subst hsz
  have hD := hD0.self (sz := s.heap.size)
  generalize hAe : va_A [(h0, .inr (6, [.ref h1, .ref h2, .int s_length, .int s_place, .int s_next])), (h1, .inl (cB, 200, .inl s_bytes)), (h2, .inr (7, [.int (33 : Int32), .int (5 : Int32), .ref h3, .int s_items_size])), (h3, .inl (cI, 165, .inl s_items_cells))] s.heap.size = A at hD hnb ⊢
  have hA : ∀ q : Nat, s.heap.size ≤ q → A q := fun q h => by rw [← hAe]; exact Or.inr h
  have hS : va_S A s.heap s.heap [] := va_S.rf
  have hl := lv_entry ([.ref h0]) (n := 7) (Nat.le_of_ble_eq_true rfl)
  rw [lg_entry_eq]
  generalize (lg_sl ([.ref h0]) ++ List.replicate (7 - (lg_sl ([.ref h0])).length) Slot.unset).toArray = ls at hl ⊢
  have hl : lv_has ls 7 [(0, .ref h0)] := hl
  unfold pX6_findFault at hf
  obtain ⟨H, hH⟩ : ∃ H, H = s.heap := ⟨_, rfl⟩
  obtain ⟨locs, hlo⟩ : ∃ L : List Loc, L = [] := ⟨_, rfl⟩
  have hS : va_S A s.heap H locs := by rw [hH, hlo]; exact hS
  rw [← hH] at hP
  have hG : W p l e ({ frames := 6, cells := 0, slots := 0, locals := 161 } : Room) s m [.ref h0].toArray below meth c H locs 0 0 (MQ below (va_Qi (fun (r : Int32) (u : Int32 × Int32 × Int32 × (Nat → Int32)) => k r u.1 u.2.1 u.2.2.1 u.2.2.2) (fun (u : Int32 × Int32 × Int32 × (Nat → Int32)) t => va_P (dC, dI) vwCl [(h0, .inr (6, [.ref h1, .ref h2, .int s_length, .int u.1, .int u.2.1])), (h1, .inl (cB, 200, .inl s_bytes)), (h2, .inr (7, [.int (33 : Int32), .int (5 : Int32), .ref h3, .int u.2.2.1])), (h3, .inl (cI, 165, .inl u.2.2.2))] t.heap ∧ va_D A [(h0, .inr (6, [.ref h1, .ref h2, .int s_length, .int u.1, .int u.2.1])), (h1, .inl (cB, 200, .inl s_bytes)), (h2, .inr (7, [.int (33 : Int32), .int (5 : Int32), .ref h3, .int u.2.2.1])), (h3, .inl (cI, 165, .inl u.2.2.2))]) A) [.ref h0].toArray s 0 0 A) (F0 m 0 ls []) := by
    clear hlo hH hD0
    refine lv_aload_n hx hb dX6_findFault_0 rfl (lv_at hl 0 rfl) ?_
    refine va_get (D := (dC, dI)) (ci := 6) (v := .ref h2) (C := RX6) (T := TX6) (N := 5) hx hb hts iX6_findFault_X6 hown hK hP 0 rfl rfl 1 (by decide) (hts _ mX6_findFault_f20) (fun _ h9 => h9) rfl dX6_findFault_1 ?_
    have hPc := hP.sub (ws' := [(h2, .inr (7, [.int (33 : Int32), .int (5 : Int32), .ref h3, .int s_items_size]))]) [2] rfl
    have hDc := hD.sub (ws' := [(h2, .inr (7, [.int (33 : Int32), .int (5 : Int32), .ref h3, .int s_items_size]))]) [2] (by decide) rfl
    have hFc := va_free (wc := [(h2, .inr (7, [.int (33 : Int32), .int (5 : Int32), .ref h3, .int s_items_size]))]) hD hS hA [2] rfl
    refine va_callv (va_runV (As := []) (rest := []) ⟨hx, hb, hml, hown, hts⟩ (metX7_dropAll (sz := H.size) hf) (cwV 0 hts gX6_findFault_X7_dropAll rfl rfl rfl ⟨rfl, kX7_dropAll⟩ ⟨Nat.le_of_ble_eq_true rfl, Nat.le_of_ble_eq_true rfl⟩) ⟨PR.blind, va_recv hK hPc (ci := 7) (q0 := 0) rfl rfl, fun U hU hW => ⟨rfl, PR.go hU hW hPc hDc hK hN⟩⟩ rfl rfl hl.1 rfl (lv_room (Nat.le_of_ble_eq_true rfl)) dX6_findFault_4 ⟨Nat.zero_le _, Nat.zero_le _⟩) hS (fun q _ h => hFc q h) hFc (fun u t H1 locs ht hvm hf hB hz1 hk1 hS => ?_)
    obtain ⟨s_items_size_1, rfl⟩ : ∃ z, z = u := ⟨_, rfl⟩
    have hP1 : va_P (dC, dI) vwCl [(h2, .inr (7, [.int (33 : Int32), .int (5 : Int32), .ref h3, .int s_items_size_1]))] H1 := by rw [← ht]; exact hB.1
    have hD1 : va_D (va_A [(h2, .inr (7, [.int (33 : Int32), .int (5 : Int32), .ref h3, .int s_items_size]))] H.size) [(h2, .inr (7, [.int (33 : Int32), .int (5 : Int32), .ref h3, .int s_items_size_1]))] := hB.2
    obtain ⟨hP, hD⟩ := jn (wr := [(h0, .inr (6, [.ref h1, .ref h2, .int s_length, .int s_place, .int s_next])), (h1, .inl (cB, 200, .inl s_bytes)), (h3, .inl (cI, 165, .inl s_items_cells))]) (ws' := [(h0, .inr (6, [.ref h1, .ref h2, .int s_length, .int s_place, .int s_next])), (h1, .inl (cB, 200, .inl s_bytes)), (h2, .inr (7, [.int (33 : Int32), .int (5 : Int32), .ref h3, .int s_items_size_1])), (h3, .inl (cI, 165, .inl s_items_cells))]) hP hD [2] [0, 1, 3] rfl rfl (by decide) (by decide) hk1 hFc hP1 hD1 [0, 1, 3, 2] (by decide) rfl
    clear hP1 hD1 hB hk1 hz1 hvm ht hPc hDc hFc
    generalize H1 = H at hP hS ⊢
    try dsimp only at hf
    refine lv_aload_n hx hb dX6_findFault_7 rfl (lv_at hl 0 rfl) ?_
    refine lv_iconst (v := (0 : Int32)) hx hb dX6_findFault_8 (by decide) ?_
    refine va_put (D := (dC, dI)) (ci := 6) (v := .int (0 : Int32)) (ty := .int) (C := RX6) (T := TX6) (N := 5) hx hb hts iX6_findFault_X6 tyX6 tyX6_ok nmX6 hown hK hP hD hS 0 rfl rfl 4 (by decide) (hts _ mX6_findFault_f31) (fun _ h9 => h9) rfl (by decide +kernel) rfl rfl (Nat.le_of_ble_eq_true rfl) dX6_findFault_9 (fun H locs hP hD hS => ?_)
    replace hP : va_P (dC, dI) vwCl [(h0, .inr (6, [.ref h1, .ref h2, .int s_length, .int s_place, .int (0 : Int32)])), (h1, .inl (cB, 200, .inl s_bytes)), (h2, .inr (7, [.int (33 : Int32), .int (5 : Int32), .ref h3, .int s_items_size_1])), (h3, .inl (cI, 165, .inl s_items_cells))] H := hP
    replace hD : va_D A [(h0, .inr (6, [.ref h1, .ref h2, .int s_length, .int s_place, .int (0 : Int32)])), (h1, .inl (cB, 200, .inl s_bytes)), (h2, .inr (7, [.int (33 : Int32), .int (5 : Int32), .ref h3, .int s_items_size_1])), (h3, .inl (cI, 165, .inl s_items_cells))] := hD
    refine lv_iconst (v := (0 : Int32)) hx hb dX6_findFault_12 (by decide) ?_
    refine lv_istore_n (lv' := [(1, .int (0 : Int32)), (0, .ref h0)]) hx hb dX6_findFault_13 rfl hl (by decide) rfl (fun ls hl => ?_)
    refine lv_iconst (v := (0 : Int32)) hx hb dX6_findFault_14 (by decide) ?_
    refine lv_istore_n (lv' := [(2, .int (0 : Int32)), (1, .int (0 : Int32)), (0, .ref h0)]) hx hb dX6_findFault_15 rfl hl (by decide) rfl (fun ls hl => ?_)
    refine lv_iconst (v := (0 : Int32)) hx hb dX6_findFault_16 (by decide) ?_
    refine lv_istore_n (lv' := [(3, .int (0 : Int32)), (2, .int (0 : Int32)), (1, .int (0 : Int32)), (0, .ref h0)]) hx hb dX6_findFault_17 rfl hl (by decide) rfl (fun ls hl => ?_)
    refine lv_iconst (v := (0 : Int32)) hx hb dX6_findFault_18 (by decide) ?_
    refine lv_istore (lv' := [(4, .int (0 : Int32)), (3, .int (0 : Int32)), (2, .int (0 : Int32)), (1, .int (0 : Int32)), (0, .ref h0)]) hx hb dX6_findFault_19 hl (by decide) rfl (fun ls hl => ?_)
    obtain ⟨n21, hf⟩ := hf
    refine wX6_findFault_21 C hK hN hSF hnb hA (fun s_place_19 s_next_19 s_items_size_19 s_items_cells_19 H locs ls hP hD hS hl hf => ?_) n21 (0 : Int32) (0 : Int32) (0 : Int32) (0 : Int32) s_place (0 : Int32) s_items_size_1 s_items_cells H locs ls hP hD hS (lv_sub hl [4, 3, 2, 1, 0] rfl) hf
    refine lv_aload_n hx hb dX6_findFault_175 rfl (lv_at hl 0 rfl) ?_
    refine va_get (D := (dC, dI)) (ci := 6) (v := .int s_length) (C := RX6) (T := TX6) (N := 5) hx hb hts iX6_findFault_X6 hown hK hP 0 rfl rfl 2 (by decide) (hts _ mX6_findFault_f24) (fun _ h9 => h9) rfl dX6_findFault_176 ?_
    exact W.iret (v := s_length) hx hb hr (fun t ht hW => ⟨⟨s_length, (s_place_19, s_next_19, s_items_size_19, s_items_cells_19), rfl, hf, by rw [ht]; exact hP, hD⟩, hS.F ht⟩) hS.2.2 dX6_findFault_179
  rw [hH, hlo] at hG
  exact hG
set_option maxHeartbeats 4000000 in
set_option maxRecDepth 100000 in
theorem metX6_itemCount {h0 r_bytes h1 r_items_cells : Nat} {s_length s_place s_next s_items_size : Int32}  {k : Int32 → Prop} (hf : pX6_itemCount s_items_size k) : Met l yX6_itemCount wsX6_itemCount ({ frames := 1, cells := 0, slots := 0, locals := 20 } : Room) (va_Pc [.ref h0] (PW dC dI (TYS cI cL cB cZ cT cR) [(h0, .inr (6, [.ref r_bytes, .ref h1, .int s_length, .int s_place, .int s_next])), (h1, .inr (7, [.int (33 : Int32), .int (5 : Int32), .ref r_items_cells, .int s_items_size]))])) (roQi k) 0 0 (fun _ => False) := by
  refine Met.ofW (cc := cX6_itemCount) (maxL := 1) (ret := (some .int)) (by decide) rfl ?_
  intro p e s m args below meth c s₁ B hml hv
  obtain ⟨rfl, hP, hK, hN⟩ := hv
  have C : CX p s m _ meth c cX6_itemCount 1 wsX6_itemCount RX6 (some .int) := ⟨B.exec, B.bytes, hml, findClass_of_methodNamed B.named, atoms_spec (ws := wsX6_itemCount) B.pre, B.returns, B.notSynchronized⟩
  obtain ⟨hx, hb, -, hown, hts, hr, hlocks⟩ := id C
  have hl := lv_entry ([.ref h0]) (n := 1) (Nat.le_of_ble_eq_true rfl)
  rw [lg_entry_eq]
  generalize (lg_sl ([.ref h0]) ++ List.replicate (1 - (lg_sl ([.ref h0])).length) Slot.unset).toArray = ls at hl ⊢
  have hl : lv_has ls 1 [(0, .ref h0)] := hl
  unfold pX6_itemCount at hf
  refine lv_aload_n hx hb dX6_itemCount_0 rfl (lv_at hl 0 rfl) ?_
  refine va_get (D := (dC, dI)) (ci := 6) (v := .ref h1) (C := RX6) (T := TX6) (N := 5) hx hb hts iX6_itemCount_X6 hown hK hP 0 rfl rfl 1 (by decide) (hts _ mX6_itemCount_f20) (fun _ h9 => h9) rfl dX6_itemCount_1 ?_
  have hPc := hP.sub (ws' := [(h1, .inr (7, [.int (33 : Int32), .int (5 : Int32), .ref r_items_cells, .int s_items_size]))]) [1] rfl
  refine ro_calli (va_runV (As := []) (rest := []) ⟨hx, hb, hml, hown, hts⟩ (metX7_size hf) (cwV 0 hts gX6_itemCount_X7_size rfl rfl rfl ⟨rfl, kX7_size⟩ ⟨Nat.le_of_ble_eq_true rfl, Nat.le_of_ble_eq_true rfl⟩) ⟨PW.blind, va_recv hK hPc (ci := 7) (q0 := 0) rfl rfl, fun U hU hW => ⟨rfl, PW.go hU hW hPc hK hN⟩⟩ rfl rfl hl.1 rfl (lv_room (Nat.le_of_ble_eq_true rfl)) dX6_itemCount_4 ⟨Nat.zero_le _, Nat.zero_le _⟩) (fun r_1 hf => ?_)
  exact W.iret (v := r_1) hx hb hr (fun t ht hW => ⟨r_1, rfl, hf, ht⟩) (fun q h => by cases h) dX6_itemCount_7
set_option maxHeartbeats 4000000 in
set_option maxRecDepth 100000 in
theorem metX6_numberOf {h0 r_bytes h1 h2 : Nat} {s_length s_place s_next s_items_size : Int32} {s_items_cells : Nat → Int32} {a1 : Int32} {a2 : Int32} {k : Int32 → Prop} (hf : pX6_numberOf s_items_cells a1 a2 k) : Met l yX6_numberOf wsX6_numberOf ({ frames := 1, cells := 0, slots := 0, locals := 23 } : Room) (va_Pc [.ref h0, .int a1, .int a2] (PW dC dI (TYS cI cL cB cZ cT cR) [(h0, .inr (6, [.ref r_bytes, .ref h1, .int s_length, .int s_place, .int s_next])), (h1, .inr (7, [.int (33 : Int32), .int (5 : Int32), .ref h2, .int s_items_size])), (h2, .inl (cI, 165, .inl s_items_cells))])) (roQi k) 0 0 (fun _ => False) := by
  refine Met.ofW (cc := cX6_numberOf) (maxL := 3) (ret := (some .int)) (by decide) rfl ?_
  intro p e s m args below meth c s₁ B hml hv
  obtain ⟨rfl, hP, hK, hN⟩ := hv
  have C : CX p s m _ meth c cX6_numberOf 3 wsX6_numberOf RX6 (some .int) := ⟨B.exec, B.bytes, hml, findClass_of_methodNamed B.named, atoms_spec (ws := wsX6_numberOf) B.pre, B.returns, B.notSynchronized⟩
  obtain ⟨hx, hb, -, hown, hts, hr, hlocks⟩ := id C
  have hl := lv_entry ([.ref h0, .int a1, .int a2]) (n := 3) (Nat.le_of_ble_eq_true rfl)
  rw [lg_entry_eq]
  generalize (lg_sl ([.ref h0, .int a1, .int a2]) ++ List.replicate (3 - (lg_sl ([.ref h0, .int a1, .int a2])).length) Slot.unset).toArray = ls at hl ⊢
  have hl : lv_has ls 3 [(0, .ref h0), (1, .int a1), (2, .int a2)] := hl
  unfold pX6_numberOf at hf
  refine lv_aload_n hx hb dX6_numberOf_0 rfl (lv_at hl 0 rfl) ?_
  refine va_get (D := (dC, dI)) (ci := 6) (v := .ref h1) (C := RX6) (T := TX6) (N := 5) hx hb hts iX6_numberOf_X6 hown hK hP 0 rfl rfl 1 (by decide) (hts _ mX6_numberOf_f20) (fun _ h9 => h9) rfl dX6_numberOf_1 ?_
  refine lv_iload_n hx hb dX6_numberOf_4 rfl (lv_at hl 1 rfl) ?_
  refine lv_iconst (v := (1 : Int32)) hx hb dX6_numberOf_5 (by decide) ?_
  refine lv_iload_n hx hb dX6_numberOf_6 rfl (lv_at hl 2 rfl) ?_
  refine lv_iadd hx hb dX6_numberOf_7 ?_
  have hPc := hP.sub (ws' := [(h1, .inr (7, [.int (33 : Int32), .int (5 : Int32), .ref h2, .int s_items_size])), (h2, .inl (cI, 165, .inl s_items_cells))]) [1, 2] rfl
  refine ro_calli (va_runV (As := [.int a1, .int ((1 : Int32) + a2)]) (rest := []) ⟨hx, hb, hml, hown, hts⟩ (metX7_at hf) (cwV 2 hts gX6_numberOf_X7_at rfl rfl rfl ⟨rfl, kX7_at⟩ ⟨Nat.le_of_ble_eq_true rfl, Nat.le_of_ble_eq_true rfl⟩) ⟨PW.blind, va_recv hK hPc (ci := 7) (q0 := 0) rfl rfl, fun U hU hW => ⟨rfl, PW.go hU hW hPc hK hN⟩⟩ rfl rfl hl.1 rfl (lv_room (Nat.le_of_ble_eq_true rfl)) dX6_numberOf_8 ⟨Nat.zero_le _, Nat.zero_le _⟩) (fun r_1 hf => ?_)
  exact W.iret (v := r_1) hx hb hr (fun t ht hW => ⟨r_1, rfl, hf, ht⟩) (fun q h => by cases h) dX6_numberOf_11
set_option maxHeartbeats 4000000 in
set_option maxRecDepth 100000 in
theorem metX6_sortOf {h0 r_bytes h1 h2 : Nat} {s_length s_place s_next s_items_size : Int32} {s_items_cells : Nat → Int32} {a1 : Int32} {k : Int32 → Prop} (hf : pX6_sortOf s_items_cells a1 k) : Met l yX6_sortOf wsX6_sortOf ({ frames := 1, cells := 0, slots := 0, locals := 23 } : Room) (va_Pc [.ref h0, .int a1] (PW dC dI (TYS cI cL cB cZ cT cR) [(h0, .inr (6, [.ref r_bytes, .ref h1, .int s_length, .int s_place, .int s_next])), (h1, .inr (7, [.int (33 : Int32), .int (5 : Int32), .ref h2, .int s_items_size])), (h2, .inl (cI, 165, .inl s_items_cells))])) (roQi k) 0 0 (fun _ => False) := by
  refine Met.ofW (cc := cX6_sortOf) (maxL := 2) (ret := (some .int)) (by decide) rfl ?_
  intro p e s m args below meth c s₁ B hml hv
  obtain ⟨rfl, hP, hK, hN⟩ := hv
  have C : CX p s m _ meth c cX6_sortOf 2 wsX6_sortOf RX6 (some .int) := ⟨B.exec, B.bytes, hml, findClass_of_methodNamed B.named, atoms_spec (ws := wsX6_sortOf) B.pre, B.returns, B.notSynchronized⟩
  obtain ⟨hx, hb, -, hown, hts, hr, hlocks⟩ := id C
  have hl := lv_entry ([.ref h0, .int a1]) (n := 2) (Nat.le_of_ble_eq_true rfl)
  rw [lg_entry_eq]
  generalize (lg_sl ([.ref h0, .int a1]) ++ List.replicate (2 - (lg_sl ([.ref h0, .int a1])).length) Slot.unset).toArray = ls at hl ⊢
  have hl : lv_has ls 2 [(0, .ref h0), (1, .int a1)] := hl
  unfold pX6_sortOf at hf
  refine lv_aload_n hx hb dX6_sortOf_0 rfl (lv_at hl 0 rfl) ?_
  refine va_get (D := (dC, dI)) (ci := 6) (v := .ref h1) (C := RX6) (T := TX6) (N := 5) hx hb hts iX6_sortOf_X6 hown hK hP 0 rfl rfl 1 (by decide) (hts _ mX6_sortOf_f20) (fun _ h9 => h9) rfl dX6_sortOf_1 ?_
  refine lv_iload_n hx hb dX6_sortOf_4 rfl (lv_at hl 1 rfl) ?_
  refine lv_iconst (v := (0 : Int32)) hx hb dX6_sortOf_5 (by decide) ?_
  have hPc := hP.sub (ws' := [(h1, .inr (7, [.int (33 : Int32), .int (5 : Int32), .ref h2, .int s_items_size])), (h2, .inl (cI, 165, .inl s_items_cells))]) [1, 2] rfl
  refine ro_calli (va_runV (As := [.int a1, .int (0 : Int32)]) (rest := []) ⟨hx, hb, hml, hown, hts⟩ (metX7_at hf) (cwV 2 hts gX6_sortOf_X7_at rfl rfl rfl ⟨rfl, kX7_at⟩ ⟨Nat.le_of_ble_eq_true rfl, Nat.le_of_ble_eq_true rfl⟩) ⟨PW.blind, va_recv hK hPc (ci := 7) (q0 := 0) rfl rfl, fun U hU hW => ⟨rfl, PW.go hU hW hPc hK hN⟩⟩ rfl rfl hl.1 rfl (lv_room (Nat.le_of_ble_eq_true rfl)) dX6_sortOf_6 ⟨Nat.zero_le _, Nat.zero_le _⟩) (fun r_1 hf => ?_)
  exact W.iret (v := r_1) hx hb hr (fun t ht hW => ⟨r_1, rfl, hf, ht⟩) (fun q h => by cases h) dX6_sortOf_9
set_option maxHeartbeats 4000000 in
set_option maxRecDepth 100000 in
theorem metX9_takeOne {r_ : Nat} {a1 : Int32} {k : Int32 → Prop} (hf : pX9_takeOne a1 k) : Met l yX9_takeOne wsX9_takeOne ({ frames := 0, cells := 0, slots := 0, locals := 0 } : Room) (va_Pc [.ref r_, .int a1] (PW dC dI (TYS cI cL cB cZ cT cR) [])) (roQi k) 0 0 (fun _ => False) := by
  refine Met.ofW (cc := cX9_takeOne) (maxL := 2) (ret := (some .int)) (by decide) rfl ?_
  intro p e s m args below meth c s₁ B hml hv
  obtain ⟨rfl, hP, hK, hN⟩ := hv
  have C : CX p s m _ meth c cX9_takeOne 2 wsX9_takeOne RX9 (some .int) := ⟨B.exec, B.bytes, hml, findClass_of_methodNamed B.named, atoms_spec (ws := wsX9_takeOne) B.pre, B.returns, B.notSynchronized⟩
  obtain ⟨hx, hb, -, hown, hts, hr, hlocks⟩ := id C
  have hl := lv_entry ([.ref r_, .int a1]) (n := 2) (Nat.le_of_ble_eq_true rfl)
  rw [lg_entry_eq]
  generalize (lg_sl ([.ref r_, .int a1]) ++ List.replicate (2 - (lg_sl ([.ref r_, .int a1])).length) Slot.unset).toArray = ls at hl ⊢
  have hl : lv_has ls 2 [(0, .ref r_), (1, .int a1)] := hl
  unfold pX9_takeOne at hf
  refine lv_iload_n hx hb dX9_takeOne_0 rfl (lv_at hl 1 rfl) ?_
  refine lv_if_le (tgt := 8) hx hb dX9_takeOne_1 (by decide) (fun c_1 => ?_) (fun c_1 => ?_)
  · replace hf := hf.1 c_1
    refine lv_iconst (v := (0 : Int32)) hx hb dX9_takeOne_8 (by decide) ?_
    exact W.iret (v := (0 : Int32)) hx hb hr (fun t ht hW => ⟨(0 : Int32), rfl, hf, ht⟩) (fun q h => by cases h) dX9_takeOne_9
  · replace hf := hf.2 c_1
    refine lv_iconst (v := (-1 : Int32)) hx hb dX9_takeOne_4 (by decide) ?_
    refine lv_goto (tgt := 9) hx hb dX9_takeOne_5 (by decide) ?_
    exact W.iret (v := (-1 : Int32)) hx hb hr (fun t ht hW => ⟨(-1 : Int32), rfl, hf, ht⟩) (fun q h => by cases h) dX9_takeOne_9
set_option maxHeartbeats 4000000 in
set_option maxRecDepth 100000 in
theorem metX9_act {h0 : Nat} {a1 : Int32} {a2 : Int32} {a3 : Int32} {a4 : Int32} {a5 : Int32} {k : Int32 → Prop} (hf : pX9_act a4 k) : Met l yX9_act wsX9_act ({ frames := 1, cells := 0, slots := 0, locals := 21 } : Room) (va_Pc [.ref h0, .int a1, .int a2, .int a3, .int a4, .int a5] (PW dC dI (TYS cI cL cB cZ cT cR) [(h0, .inr (9, []))])) (roQi k) 0 0 (fun _ => False) := by
  refine Met.ofW (cc := cX9_act) (maxL := 6) (ret := (some .int)) (by decide) rfl ?_
  intro p e s m args below meth c s₁ B hml hv
  obtain ⟨rfl, hP, hK, hN⟩ := hv
  have C : CX p s m _ meth c cX9_act 6 wsX9_act RX9 (some .int) := ⟨B.exec, B.bytes, hml, findClass_of_methodNamed B.named, atoms_spec (ws := wsX9_act) B.pre, B.returns, B.notSynchronized⟩
  obtain ⟨hx, hb, -, hown, hts, hr, hlocks⟩ := id C
  have hl := lv_entry ([.ref h0, .int a1, .int a2, .int a3, .int a4, .int a5]) (n := 6) (Nat.le_of_ble_eq_true rfl)
  rw [lg_entry_eq]
  generalize (lg_sl ([.ref h0, .int a1, .int a2, .int a3, .int a4, .int a5]) ++ List.replicate (6 - (lg_sl ([.ref h0, .int a1, .int a2, .int a3, .int a4, .int a5])).length) Slot.unset).toArray = ls at hl ⊢
  have hl : lv_has ls 6 [(0, .ref h0), (1, .int a1), (2, .int a2), (3, .int a3), (4, .int a4), (5, .int a5)] := hl
  unfold pX9_act at hf
  refine lv_aload_n hx hb dX9_act_0 rfl (lv_at hl 0 rfl) ?_
  refine lv_iload hx hb dX9_act_1 (lv_at hl 4 rfl) ?_
  have hPc := hP.sub (ws' := []) [] rfl
  refine ro_calli (va_runV (As := [.int a4]) (rest := []) ⟨hx, hb, hml, hown, hts⟩ (metX9_takeOne hf) (cwV 1 hts gX9_act_X9_takeOne rfl rfl rfl ⟨rfl, kX9_takeOne⟩ ⟨Nat.le_of_ble_eq_true rfl, Nat.le_of_ble_eq_true rfl⟩) ⟨PW.blind, va_recv hK hP (ci := 9) (q0 := 0) rfl rfl, fun U hU hW => ⟨rfl, PW.go hU hW hPc hK hN⟩⟩ rfl rfl hl.1 rfl (lv_room (Nat.le_of_ble_eq_true rfl)) dX9_act_3 ⟨Nat.zero_le _, Nat.zero_le _⟩) (fun r_1 hf => ?_)
  exact W.iret (v := r_1) hx hb hr (fun t ht hW => ⟨r_1, rfl, hf, ht⟩) (fun q h => by cases h) dX9_act_6
set_option maxHeartbeats 4000000 in
set_option maxRecDepth 100000 in
theorem metX9_act_X1 {h0 : Nat} {a1 : Int32} {a2 : Int32} {a3 : Int32} {a4 : Int32} {a5 : Int32} {k : Int32 → Prop} (hf : pX9_act a4 k) : Met l yX9_act wsX9_act ({ frames := 1, cells := 0, slots := 0, locals := 21 } : Room) (va_Pc [.ref h0, .int a1, .int a2, .int a3, .int a4, .int a5] (PW dC dI (TYS cI cL cB cZ cT cR) [(h0, .inr (1, []))])) (roQi k) 0 0 (fun _ => False) := by
  refine Met.ofW (cc := cX9_act) (maxL := 6) (ret := (some .int)) (by decide) rfl ?_
  intro p e s m args below meth c s₁ B hml hv
  obtain ⟨rfl, hP, hK, hN⟩ := hv
  have C : CX p s m _ meth c cX9_act 6 wsX9_act RX9 (some .int) := ⟨B.exec, B.bytes, hml, findClass_of_methodNamed B.named, atoms_spec (ws := wsX9_act) B.pre, B.returns, B.notSynchronized⟩
  obtain ⟨hx, hb, -, hown, hts, hr, hlocks⟩ := id C
  have hl := lv_entry ([.ref h0, .int a1, .int a2, .int a3, .int a4, .int a5]) (n := 6) (Nat.le_of_ble_eq_true rfl)
  rw [lg_entry_eq]
  generalize (lg_sl ([.ref h0, .int a1, .int a2, .int a3, .int a4, .int a5]) ++ List.replicate (6 - (lg_sl ([.ref h0, .int a1, .int a2, .int a3, .int a4, .int a5])).length) Slot.unset).toArray = ls at hl ⊢
  have hl : lv_has ls 6 [(0, .ref h0), (1, .int a1), (2, .int a2), (3, .int a3), (4, .int a4), (5, .int a5)] := hl
  unfold pX9_act at hf
  refine lv_aload_n hx hb dX9_act_0 rfl (lv_at hl 0 rfl) ?_
  refine lv_iload hx hb dX9_act_1 (lv_at hl 4 rfl) ?_
  have hPc := hP.sub (ws' := []) [] rfl
  refine ro_calli (va_runU (As := [.int a4]) (rest := []) ⟨hx, hb, hml, hown, hts⟩ (metX9_takeOne hf) (va_cwU 1 hts gX9_act_X9_takeOne_u9X1 rfl rfl rfl rfl kX9_takeOne ⟨Nat.le_of_ble_eq_true rfl, Nat.le_of_ble_eq_true rfl⟩) ⟨PW.blind, va_recv hK hP (ci := 1) (q0 := 0) rfl rfl, fun U hU hW => ⟨rfl, PW.go hU hW hPc hK hN⟩⟩ rfl rfl hl.1 rfl (lv_room (Nat.le_of_ble_eq_true rfl)) dX9_act_3 ⟨Nat.zero_le _, Nat.zero_le _⟩) (fun r_1 hf => ?_)
  exact W.iret (v := r_1) hx hb hr (fun t ht hW => ⟨r_1, rfl, hf, ht⟩) (fun q h => by cases h) dX9_act_6
set_option maxHeartbeats 4000000 in
set_option maxRecDepth 100000 in
theorem metX9_act_X2 {h0 : Nat} {a1 : Int32} {a2 : Int32} {a3 : Int32} {a4 : Int32} {a5 : Int32} {k : Int32 → Prop} (hf : pX9_act a4 k) : Met l yX9_act wsX9_act ({ frames := 1, cells := 0, slots := 0, locals := 21 } : Room) (va_Pc [.ref h0, .int a1, .int a2, .int a3, .int a4, .int a5] (PW dC dI (TYS cI cL cB cZ cT cR) [(h0, .inr (2, []))])) (roQi k) 0 0 (fun _ => False) := by
  refine Met.ofW (cc := cX9_act) (maxL := 6) (ret := (some .int)) (by decide) rfl ?_
  intro p e s m args below meth c s₁ B hml hv
  obtain ⟨rfl, hP, hK, hN⟩ := hv
  have C : CX p s m _ meth c cX9_act 6 wsX9_act RX9 (some .int) := ⟨B.exec, B.bytes, hml, findClass_of_methodNamed B.named, atoms_spec (ws := wsX9_act) B.pre, B.returns, B.notSynchronized⟩
  obtain ⟨hx, hb, -, hown, hts, hr, hlocks⟩ := id C
  have hl := lv_entry ([.ref h0, .int a1, .int a2, .int a3, .int a4, .int a5]) (n := 6) (Nat.le_of_ble_eq_true rfl)
  rw [lg_entry_eq]
  generalize (lg_sl ([.ref h0, .int a1, .int a2, .int a3, .int a4, .int a5]) ++ List.replicate (6 - (lg_sl ([.ref h0, .int a1, .int a2, .int a3, .int a4, .int a5])).length) Slot.unset).toArray = ls at hl ⊢
  have hl : lv_has ls 6 [(0, .ref h0), (1, .int a1), (2, .int a2), (3, .int a3), (4, .int a4), (5, .int a5)] := hl
  unfold pX9_act at hf
  refine lv_aload_n hx hb dX9_act_0 rfl (lv_at hl 0 rfl) ?_
  refine lv_iload hx hb dX9_act_1 (lv_at hl 4 rfl) ?_
  have hPc := hP.sub (ws' := []) [] rfl
  refine ro_calli (va_runU (As := [.int a4]) (rest := []) ⟨hx, hb, hml, hown, hts⟩ (metX9_takeOne hf) (va_cwU 1 hts gX9_act_X9_takeOne_u9X2 rfl rfl rfl rfl kX9_takeOne ⟨Nat.le_of_ble_eq_true rfl, Nat.le_of_ble_eq_true rfl⟩) ⟨PW.blind, va_recv hK hP (ci := 2) (q0 := 0) rfl rfl, fun U hU hW => ⟨rfl, PW.go hU hW hPc hK hN⟩⟩ rfl rfl hl.1 rfl (lv_room (Nat.le_of_ble_eq_true rfl)) dX9_act_3 ⟨Nat.zero_le _, Nat.zero_le _⟩) (fun r_1 hf => ?_)
  exact W.iret (v := r_1) hx hb hr (fun t ht hW => ⟨r_1, rfl, hf, ht⟩) (fun q h => by cases h) dX9_act_6
set_option maxHeartbeats 4000000 in
set_option maxRecDepth 100000 in
theorem metX9_act_X4 {h0 : Nat} {a1 : Int32} {a2 : Int32} {a3 : Int32} {a4 : Int32} {a5 : Int32} {k : Int32 → Prop} (hf : pX9_act a4 k) : Met l yX9_act wsX9_act ({ frames := 1, cells := 0, slots := 0, locals := 21 } : Room) (va_Pc [.ref h0, .int a1, .int a2, .int a3, .int a4, .int a5] (PW dC dI (TYS cI cL cB cZ cT cR) [(h0, .inr (4, []))])) (roQi k) 0 0 (fun _ => False) := by
  refine Met.ofW (cc := cX9_act) (maxL := 6) (ret := (some .int)) (by decide) rfl ?_
  intro p e s m args below meth c s₁ B hml hv
  obtain ⟨rfl, hP, hK, hN⟩ := hv
  have C : CX p s m _ meth c cX9_act 6 wsX9_act RX9 (some .int) := ⟨B.exec, B.bytes, hml, findClass_of_methodNamed B.named, atoms_spec (ws := wsX9_act) B.pre, B.returns, B.notSynchronized⟩
  obtain ⟨hx, hb, -, hown, hts, hr, hlocks⟩ := id C
  have hl := lv_entry ([.ref h0, .int a1, .int a2, .int a3, .int a4, .int a5]) (n := 6) (Nat.le_of_ble_eq_true rfl)
  rw [lg_entry_eq]
  generalize (lg_sl ([.ref h0, .int a1, .int a2, .int a3, .int a4, .int a5]) ++ List.replicate (6 - (lg_sl ([.ref h0, .int a1, .int a2, .int a3, .int a4, .int a5])).length) Slot.unset).toArray = ls at hl ⊢
  have hl : lv_has ls 6 [(0, .ref h0), (1, .int a1), (2, .int a2), (3, .int a3), (4, .int a4), (5, .int a5)] := hl
  unfold pX9_act at hf
  refine lv_aload_n hx hb dX9_act_0 rfl (lv_at hl 0 rfl) ?_
  refine lv_iload hx hb dX9_act_1 (lv_at hl 4 rfl) ?_
  have hPc := hP.sub (ws' := []) [] rfl
  refine ro_calli (va_runU (As := [.int a4]) (rest := []) ⟨hx, hb, hml, hown, hts⟩ (metX9_takeOne hf) (va_cwU 1 hts gX9_act_X9_takeOne_u9X4 rfl rfl rfl rfl kX9_takeOne ⟨Nat.le_of_ble_eq_true rfl, Nat.le_of_ble_eq_true rfl⟩) ⟨PW.blind, va_recv hK hP (ci := 4) (q0 := 0) rfl rfl, fun U hU hW => ⟨rfl, PW.go hU hW hPc hK hN⟩⟩ rfl rfl hl.1 rfl (lv_room (Nat.le_of_ble_eq_true rfl)) dX9_act_3 ⟨Nat.zero_le _, Nat.zero_le _⟩) (fun r_1 hf => ?_)
  exact W.iret (v := r_1) hx hb hr (fun t ht hW => ⟨r_1, rfl, hf, ht⟩) (fun q h => by cases h) dX9_act_6
set_option maxHeartbeats 4000000 in
set_option maxRecDepth 100000 in
theorem metX9_layOne {r_ : Nat} {a1 : Int32} {k : Int32 → Prop} (hf : pX9_layOne a1 k) : Met l yX9_layOne wsX9_layOne ({ frames := 0, cells := 0, slots := 0, locals := 0 } : Room) (va_Pc [.ref r_, .int a1] (PW dC dI (TYS cI cL cB cZ cT cR) [])) (roQi k) 0 0 (fun _ => False) := by
  refine Met.ofW (cc := cX9_layOne) (maxL := 2) (ret := (some .int)) (by decide) rfl ?_
  intro p e s m args below meth c s₁ B hml hv
  obtain ⟨rfl, hP, hK, hN⟩ := hv
  have C : CX p s m _ meth c cX9_layOne 2 wsX9_layOne RX9 (some .int) := ⟨B.exec, B.bytes, hml, findClass_of_methodNamed B.named, atoms_spec (ws := wsX9_layOne) B.pre, B.returns, B.notSynchronized⟩
  obtain ⟨hx, hb, -, hown, hts, hr, hlocks⟩ := id C
  have hl := lv_entry ([.ref r_, .int a1]) (n := 2) (Nat.le_of_ble_eq_true rfl)
  rw [lg_entry_eq]
  generalize (lg_sl ([.ref r_, .int a1]) ++ List.replicate (2 - (lg_sl ([.ref r_, .int a1])).length) Slot.unset).toArray = ls at hl ⊢
  have hl : lv_has ls 2 [(0, .ref r_), (1, .int a1)] := hl
  unfold pX9_layOne at hf
  refine lv_iload_n hx hb dX9_layOne_0 rfl (lv_at hl 1 rfl) ?_
  refine lv_bipush (v := (30 : Int32)) hx hb dX9_layOne_1 (by decide) ?_
  refine lv_icmp_ge (tgt := 10) hx hb dX9_layOne_3 (by decide) (fun c_1 => ?_) (fun c_1 => ?_)
  · replace hf := hf.1 c_1
    refine lv_iconst (v := (0 : Int32)) hx hb dX9_layOne_10 (by decide) ?_
    exact W.iret (v := (0 : Int32)) hx hb hr (fun t ht hW => ⟨(0 : Int32), rfl, hf, ht⟩) (fun q h => by cases h) dX9_layOne_11
  · replace hf := hf.2 c_1
    refine lv_iconst (v := (1 : Int32)) hx hb dX9_layOne_6 (by decide) ?_
    refine lv_goto (tgt := 11) hx hb dX9_layOne_7 (by decide) ?_
    exact W.iret (v := (1 : Int32)) hx hb hr (fun t ht hW => ⟨(1 : Int32), rfl, hf, ht⟩) (fun q h => by cases h) dX9_layOne_11
set_option maxHeartbeats 4000000 in
set_option maxRecDepth 100000 in
theorem metX4_act {h0 : Nat} {a1 : Int32} {a2 : Int32} {a3 : Int32} {a4 : Int32} {a5 : Int32} {k : Int32 → Prop} (hf : pX4_act a2 a4 k) : Met l yX4_act wsX4_act ({ frames := 2, cells := 0, slots := 0, locals := 46 } : Room) (va_Pc [.ref h0, .int a1, .int a2, .int a3, .int a4, .int a5] (PW dC dI (TYS cI cL cB cZ cT cR) [(h0, .inr (4, []))])) (roQi k) 0 0 (fun _ => False) := by
  refine Met.ofW (cc := cX4_act) (maxL := 6) (ret := (some .int)) (by decide) rfl ?_
  intro p e s m args below meth c s₁ B hml hv
  obtain ⟨rfl, hP, hK, hN⟩ := hv
  have C : CX p s m _ meth c cX4_act 6 wsX4_act RX4 (some .int) := ⟨B.exec, B.bytes, hml, findClass_of_methodNamed B.named, atoms_spec (ws := wsX4_act) B.pre, B.returns, B.notSynchronized⟩
  obtain ⟨hx, hb, -, hown, hts, hr, hlocks⟩ := id C
  have hl := lv_entry ([.ref h0, .int a1, .int a2, .int a3, .int a4, .int a5]) (n := 6) (Nat.le_of_ble_eq_true rfl)
  rw [lg_entry_eq]
  generalize (lg_sl ([.ref h0, .int a1, .int a2, .int a3, .int a4, .int a5]) ++ List.replicate (6 - (lg_sl ([.ref h0, .int a1, .int a2, .int a3, .int a4, .int a5])).length) Slot.unset).toArray = ls at hl ⊢
  have hl : lv_has ls 6 [(0, .ref h0), (1, .int a1), (2, .int a2), (3, .int a3), (4, .int a4), (5, .int a5)] := hl
  unfold pX4_act at hf
  refine lv_iload_n hx hb dX4_act_0 rfl (lv_at hl 2 rfl) ?_
  refine lv_iconst (v := (1 : Int32)) hx hb dX4_act_1 (by decide) ?_
  refine lv_icmp_ne (tgt := 14) hx hb dX4_act_2 (by decide) (fun c_1 => ?_) (fun c_1 => ?_)
  · replace hf := hf.2 c_1
    refine lv_aload_n hx hb dX4_act_14 rfl (lv_at hl 0 rfl) ?_
    refine lv_iload_n hx hb dX4_act_15 rfl (lv_at hl 1 rfl) ?_
    refine lv_iload_n hx hb dX4_act_16 rfl (lv_at hl 2 rfl) ?_
    refine lv_iload_n hx hb dX4_act_17 rfl (lv_at hl 3 rfl) ?_
    refine lv_iload hx hb dX4_act_18 (lv_at hl 4 rfl) ?_
    refine lv_iload hx hb dX4_act_20 (lv_at hl 5 rfl) ?_
    have hPc := hP.sub (ws' := [(h0, .inr (4, []))]) [0] rfl
    refine ro_calli (va_runSU (As := [.int a1, .int a2, .int a3, .int a4, .int a5]) (rest := []) (clsAt hK (ci := 4) rfl) ⟨hx, hb, hml, hown, hts⟩ (metX9_act_X4 hf) (va_cwSU 5 hts gX4_act_X9_act_s13 rfl rfl rfl kkX9_act ⟨Nat.le_of_ble_eq_true rfl, Nat.le_of_ble_eq_true rfl⟩) ⟨PW.blind, va_recv hK hPc (ci := 4) (q0 := 0) rfl rfl, fun U hU hW => ⟨rfl, PW.go hU hW hPc hK hN⟩⟩ rfl rfl hl.1 rfl (lv_room (Nat.le_of_ble_eq_true rfl)) dX4_act_22 ⟨Nat.zero_le _, Nat.zero_le _⟩) (fun r_2 hf => ?_)
    exact W.iret (v := r_2) hx hb hr (fun t ht hW => ⟨r_2, rfl, hf, ht⟩) (fun q h => by cases h) dX4_act_25
  · replace hf := hf.1 c_1
    refine lv_aload_n hx hb dX4_act_5 rfl (lv_at hl 0 rfl) ?_
    refine lv_iload hx hb dX4_act_6 (lv_at hl 4 rfl) ?_
    have hPc := hP.sub (ws' := []) [] rfl
    refine ro_calli (va_runU (As := [.int a4]) (rest := []) ⟨hx, hb, hml, hown, hts⟩ (metX9_layOne hf) (va_cwU 1 hts gX4_act_X9_layOne_u7X4 rfl rfl rfl rfl kX9_layOne ⟨Nat.le_of_ble_eq_true rfl, Nat.le_of_ble_eq_true rfl⟩) ⟨PW.blind, va_recv hK hP (ci := 4) (q0 := 0) rfl rfl, fun U hU hW => ⟨rfl, PW.go hU hW hPc hK hN⟩⟩ rfl rfl hl.1 rfl (lv_room (Nat.le_of_ble_eq_true rfl)) dX4_act_8 ⟨Nat.zero_le _, Nat.zero_le _⟩) (fun r_3 hf => ?_)
    refine lv_goto (tgt := 25) hx hb dX4_act_11 (by decide) ?_
    exact W.iret (v := r_3) hx hb hr (fun t ht hW => ⟨r_3, rfl, hf, ht⟩) (fun q h => by cases h) dX4_act_25
set_option maxHeartbeats 4000000 in
set_option maxRecDepth 100000 in
theorem metX10_act {h0 : Nat} {a1 : Int32} {a2 : Int32} {a3 : Int32} {a4 : Int32} {a5 : Int32} {k : Int32 → Prop} (hf : pX10_act a2 a3 a4 k) : Met l yX10_act wsX10_act ({ frames := 1, cells := 0, slots := 0, locals := 21 } : Room) (va_Pc [.ref h0, .int a1, .int a2, .int a3, .int a4, .int a5] (PW dC dI (TYS cI cL cB cZ cT cR) [(h0, .inr (10, []))])) (roQi k) 0 0 (fun _ => False) := by
  refine Met.ofW (cc := cX10_act) (maxL := 6) (ret := (some .int)) (by decide) rfl ?_
  intro p e s m args below meth c s₁ B hml hv
  obtain ⟨rfl, hP, hK, hN⟩ := hv
  have C : CX p s m _ meth c cX10_act 6 wsX10_act RX10 (some .int) := ⟨B.exec, B.bytes, hml, findClass_of_methodNamed B.named, atoms_spec (ws := wsX10_act) B.pre, B.returns, B.notSynchronized⟩
  obtain ⟨hx, hb, -, hown, hts, hr, hlocks⟩ := id C
  have hl := lv_entry ([.ref h0, .int a1, .int a2, .int a3, .int a4, .int a5]) (n := 6) (Nat.le_of_ble_eq_true rfl)
  rw [lg_entry_eq]
  generalize (lg_sl ([.ref h0, .int a1, .int a2, .int a3, .int a4, .int a5]) ++ List.replicate (6 - (lg_sl ([.ref h0, .int a1, .int a2, .int a3, .int a4, .int a5])).length) Slot.unset).toArray = ls at hl ⊢
  have hl : lv_has ls 6 [(0, .ref h0), (1, .int a1), (2, .int a2), (3, .int a3), (4, .int a4), (5, .int a5)] := hl
  unfold pX10_act at hf
  refine lv_iload hx hb dX10_act_0 (lv_at hl 4 rfl) ?_
  refine lv_iload_n hx hb dX10_act_2 rfl (lv_at hl 3 rfl) ?_
  refine lv_icmp_le (tgt := 13) hx hb dX10_act_3 (by decide) (fun c_1 => ?_) (fun c_1 => ?_)
  · replace hf := hf.1 c_1
    refine lv_iload hx hb dX10_act_13 (lv_at hl 4 rfl) ?_
    refine lv_iload_n hx hb dX10_act_15 rfl (lv_at hl 3 rfl) ?_
    refine lv_icmp_ge (tgt := 33) hx hb dX10_act_16 (by decide) (fun c_2 => ?_) (fun c_2 => ?_)
    · replace hf := hf.1 c_2
      refine lv_iconst (v := (0 : Int32)) hx hb dX10_act_33 (by decide) ?_
      exact W.iret (v := (0 : Int32)) hx hb hr (fun t ht hW => ⟨(0 : Int32), rfl, hf, ht⟩) (fun q h => by cases h) dX10_act_34
    · replace hf := hf.2 c_2
      refine lv_iload_n hx hb dX10_act_19 rfl (lv_at hl 2 rfl) ?_
      refine lv_iconst (v := (1 : Int32)) hx hb dX10_act_20 (by decide) ?_
      refine lv_icmp_ne (tgt := 33) hx hb dX10_act_21 (by decide) (fun c_3 => ?_) (fun c_3 => ?_)
      · replace hf := hf.2 c_3
        refine lv_iconst (v := (0 : Int32)) hx hb dX10_act_33 (by decide) ?_
        exact W.iret (v := (0 : Int32)) hx hb hr (fun t ht hW => ⟨(0 : Int32), rfl, hf, ht⟩) (fun q h => by cases h) dX10_act_34
      · replace hf := hf.1 c_3
        refine lv_aload_n hx hb dX10_act_24 rfl (lv_at hl 0 rfl) ?_
        refine lv_iload hx hb dX10_act_25 (lv_at hl 4 rfl) ?_
        have hPc := hP.sub (ws' := []) [] rfl
        refine ro_calli (va_runU (As := [.int a4]) (rest := []) ⟨hx, hb, hml, hown, hts⟩ (metX9_layOne hf) (va_cwU 1 hts gX10_act_X9_layOne_u13X10 rfl rfl rfl rfl kX9_layOne ⟨Nat.le_of_ble_eq_true rfl, Nat.le_of_ble_eq_true rfl⟩) ⟨PW.blind, va_recv hK hP (ci := 10) (q0 := 0) rfl rfl, fun U hU hW => ⟨rfl, PW.go hU hW hPc hK hN⟩⟩ rfl rfl hl.1 rfl (lv_room (Nat.le_of_ble_eq_true rfl)) dX10_act_27 ⟨Nat.zero_le _, Nat.zero_le _⟩) (fun r_4 hf => ?_)
        refine lv_goto (tgt := 34) hx hb dX10_act_30 (by decide) ?_
        exact W.iret (v := r_4) hx hb hr (fun t ht hW => ⟨r_4, rfl, hf, ht⟩) (fun q h => by cases h) dX10_act_34
  · replace hf := hf.2 c_1
    refine lv_aload_n hx hb dX10_act_6 rfl (lv_at hl 0 rfl) ?_
    refine lv_iload hx hb dX10_act_7 (lv_at hl 4 rfl) ?_
    have hPc := hP.sub (ws' := []) [] rfl
    refine ro_calli (va_runU (As := [.int a4]) (rest := []) ⟨hx, hb, hml, hown, hts⟩ (metX9_takeOne hf) (va_cwU 1 hts gX10_act_X9_takeOne_u7X10 rfl rfl rfl rfl kX9_takeOne ⟨Nat.le_of_ble_eq_true rfl, Nat.le_of_ble_eq_true rfl⟩) ⟨PW.blind, va_recv hK hP (ci := 10) (q0 := 0) rfl rfl, fun U hU hW => ⟨rfl, PW.go hU hW hPc hK hN⟩⟩ rfl rfl hl.1 rfl (lv_room (Nat.le_of_ble_eq_true rfl)) dX10_act_9 ⟨Nat.zero_le _, Nat.zero_le _⟩) (fun r_5 hf => ?_)
    exact W.iret (v := r_5) hx hb hr (fun t ht hW => ⟨r_5, rfl, hf, ht⟩) (fun q h => by cases h) dX10_act_12
set_option maxHeartbeats 4000000 in
set_option maxRecDepth 100000 in
theorem metX10_act_X0 {h0 : Nat} {a1 : Int32} {a2 : Int32} {a3 : Int32} {a4 : Int32} {a5 : Int32} {k : Int32 → Prop} (hf : pX10_act a2 a3 a4 k) : Met l yX10_act wsX10_act ({ frames := 1, cells := 0, slots := 0, locals := 21 } : Room) (va_Pc [.ref h0, .int a1, .int a2, .int a3, .int a4, .int a5] (PW dC dI (TYS cI cL cB cZ cT cR) [(h0, .inr (0, []))])) (roQi k) 0 0 (fun _ => False) := by
  refine Met.ofW (cc := cX10_act) (maxL := 6) (ret := (some .int)) (by decide) rfl ?_
  intro p e s m args below meth c s₁ B hml hv
  obtain ⟨rfl, hP, hK, hN⟩ := hv
  have C : CX p s m _ meth c cX10_act 6 wsX10_act RX10 (some .int) := ⟨B.exec, B.bytes, hml, findClass_of_methodNamed B.named, atoms_spec (ws := wsX10_act) B.pre, B.returns, B.notSynchronized⟩
  obtain ⟨hx, hb, -, hown, hts, hr, hlocks⟩ := id C
  have hl := lv_entry ([.ref h0, .int a1, .int a2, .int a3, .int a4, .int a5]) (n := 6) (Nat.le_of_ble_eq_true rfl)
  rw [lg_entry_eq]
  generalize (lg_sl ([.ref h0, .int a1, .int a2, .int a3, .int a4, .int a5]) ++ List.replicate (6 - (lg_sl ([.ref h0, .int a1, .int a2, .int a3, .int a4, .int a5])).length) Slot.unset).toArray = ls at hl ⊢
  have hl : lv_has ls 6 [(0, .ref h0), (1, .int a1), (2, .int a2), (3, .int a3), (4, .int a4), (5, .int a5)] := hl
  unfold pX10_act at hf
  refine lv_iload hx hb dX10_act_0 (lv_at hl 4 rfl) ?_
  refine lv_iload_n hx hb dX10_act_2 rfl (lv_at hl 3 rfl) ?_
  refine lv_icmp_le (tgt := 13) hx hb dX10_act_3 (by decide) (fun c_1 => ?_) (fun c_1 => ?_)
  · replace hf := hf.1 c_1
    refine lv_iload hx hb dX10_act_13 (lv_at hl 4 rfl) ?_
    refine lv_iload_n hx hb dX10_act_15 rfl (lv_at hl 3 rfl) ?_
    refine lv_icmp_ge (tgt := 33) hx hb dX10_act_16 (by decide) (fun c_2 => ?_) (fun c_2 => ?_)
    · replace hf := hf.1 c_2
      refine lv_iconst (v := (0 : Int32)) hx hb dX10_act_33 (by decide) ?_
      exact W.iret (v := (0 : Int32)) hx hb hr (fun t ht hW => ⟨(0 : Int32), rfl, hf, ht⟩) (fun q h => by cases h) dX10_act_34
    · replace hf := hf.2 c_2
      refine lv_iload_n hx hb dX10_act_19 rfl (lv_at hl 2 rfl) ?_
      refine lv_iconst (v := (1 : Int32)) hx hb dX10_act_20 (by decide) ?_
      refine lv_icmp_ne (tgt := 33) hx hb dX10_act_21 (by decide) (fun c_3 => ?_) (fun c_3 => ?_)
      · replace hf := hf.2 c_3
        refine lv_iconst (v := (0 : Int32)) hx hb dX10_act_33 (by decide) ?_
        exact W.iret (v := (0 : Int32)) hx hb hr (fun t ht hW => ⟨(0 : Int32), rfl, hf, ht⟩) (fun q h => by cases h) dX10_act_34
      · replace hf := hf.1 c_3
        refine lv_aload_n hx hb dX10_act_24 rfl (lv_at hl 0 rfl) ?_
        refine lv_iload hx hb dX10_act_25 (lv_at hl 4 rfl) ?_
        have hPc := hP.sub (ws' := []) [] rfl
        refine ro_calli (va_runU (As := [.int a4]) (rest := []) ⟨hx, hb, hml, hown, hts⟩ (metX9_layOne hf) (va_cwU 1 hts gX10_act_X9_layOne_u13X0 rfl rfl rfl rfl kX9_layOne ⟨Nat.le_of_ble_eq_true rfl, Nat.le_of_ble_eq_true rfl⟩) ⟨PW.blind, va_recv hK hP (ci := 0) (q0 := 0) rfl rfl, fun U hU hW => ⟨rfl, PW.go hU hW hPc hK hN⟩⟩ rfl rfl hl.1 rfl (lv_room (Nat.le_of_ble_eq_true rfl)) dX10_act_27 ⟨Nat.zero_le _, Nat.zero_le _⟩) (fun r_4 hf => ?_)
        refine lv_goto (tgt := 34) hx hb dX10_act_30 (by decide) ?_
        exact W.iret (v := r_4) hx hb hr (fun t ht hW => ⟨r_4, rfl, hf, ht⟩) (fun q h => by cases h) dX10_act_34
  · replace hf := hf.2 c_1
    refine lv_aload_n hx hb dX10_act_6 rfl (lv_at hl 0 rfl) ?_
    refine lv_iload hx hb dX10_act_7 (lv_at hl 4 rfl) ?_
    have hPc := hP.sub (ws' := []) [] rfl
    refine ro_calli (va_runU (As := [.int a4]) (rest := []) ⟨hx, hb, hml, hown, hts⟩ (metX9_takeOne hf) (va_cwU 1 hts gX10_act_X9_takeOne_u7X0 rfl rfl rfl rfl kX9_takeOne ⟨Nat.le_of_ble_eq_true rfl, Nat.le_of_ble_eq_true rfl⟩) ⟨PW.blind, va_recv hK hP (ci := 0) (q0 := 0) rfl rfl, fun U hU hW => ⟨rfl, PW.go hU hW hPc hK hN⟩⟩ rfl rfl hl.1 rfl (lv_room (Nat.le_of_ble_eq_true rfl)) dX10_act_9 ⟨Nat.zero_le _, Nat.zero_le _⟩) (fun r_5 hf => ?_)
    exact W.iret (v := r_5) hx hb hr (fun t ht hW => ⟨r_5, rfl, hf, ht⟩) (fun q h => by cases h) dX10_act_12
set_option maxHeartbeats 4000000 in
set_option maxRecDepth 100000 in
theorem metX2_act {h0 : Nat} {a1 : Int32} {a2 : Int32} {a3 : Int32} {a4 : Int32} {a5 : Int32} {k : Int32 → Prop} (hf : pX2_act a2 a4 a5 k) : Met l yX2_act wsX2_act ({ frames := 2, cells := 0, slots := 0, locals := 46 } : Room) (va_Pc [.ref h0, .int a1, .int a2, .int a3, .int a4, .int a5] (PW dC dI (TYS cI cL cB cZ cT cR) [(h0, .inr (2, []))])) (roQi k) 0 0 (fun _ => False) := by
  refine Met.ofW (cc := cX2_act) (maxL := 6) (ret := (some .int)) (by decide) rfl ?_
  intro p e s m args below meth c s₁ B hml hv
  obtain ⟨rfl, hP, hK, hN⟩ := hv
  have C : CX p s m _ meth c cX2_act 6 wsX2_act RX2 (some .int) := ⟨B.exec, B.bytes, hml, findClass_of_methodNamed B.named, atoms_spec (ws := wsX2_act) B.pre, B.returns, B.notSynchronized⟩
  obtain ⟨hx, hb, -, hown, hts, hr, hlocks⟩ := id C
  have hl := lv_entry ([.ref h0, .int a1, .int a2, .int a3, .int a4, .int a5]) (n := 6) (Nat.le_of_ble_eq_true rfl)
  rw [lg_entry_eq]
  generalize (lg_sl ([.ref h0, .int a1, .int a2, .int a3, .int a4, .int a5]) ++ List.replicate (6 - (lg_sl ([.ref h0, .int a1, .int a2, .int a3, .int a4, .int a5])).length) Slot.unset).toArray = ls at hl ⊢
  have hl : lv_has ls 6 [(0, .ref h0), (1, .int a1), (2, .int a2), (3, .int a3), (4, .int a4), (5, .int a5)] := hl
  unfold pX2_act at hf
  refine lv_iload hx hb dX2_act_0 (lv_at hl 5 rfl) ?_
  refine lv_if_le (tgt := 17) hx hb dX2_act_2 (by decide) (fun c_1 => ?_) (fun c_1 => ?_)
  · replace hf := hf.1 c_1
    refine lv_iload hx hb dX2_act_17 (lv_at hl 5 rfl) ?_
    refine lv_if_ge (tgt := 36) hx hb dX2_act_19 (by decide) (fun c_2 => ?_) (fun c_2 => ?_)
    · replace hf := hf.1 c_2
      refine lv_iconst (v := (0 : Int32)) hx hb dX2_act_36 (by decide) ?_
      exact W.iret (v := (0 : Int32)) hx hb hr (fun t ht hW => ⟨(0 : Int32), rfl, hf, ht⟩) (fun q h => by cases h) dX2_act_37
    · replace hf := hf.2 c_2
      refine lv_iload_n hx hb dX2_act_22 rfl (lv_at hl 2 rfl) ?_
      refine lv_iconst (v := (1 : Int32)) hx hb dX2_act_23 (by decide) ?_
      refine lv_icmp_ne (tgt := 36) hx hb dX2_act_24 (by decide) (fun c_3 => ?_) (fun c_3 => ?_)
      · replace hf := hf.2 c_3
        refine lv_iconst (v := (0 : Int32)) hx hb dX2_act_36 (by decide) ?_
        exact W.iret (v := (0 : Int32)) hx hb hr (fun t ht hW => ⟨(0 : Int32), rfl, hf, ht⟩) (fun q h => by cases h) dX2_act_37
      · replace hf := hf.1 c_3
        refine lv_aload_n hx hb dX2_act_27 rfl (lv_at hl 0 rfl) ?_
        refine lv_iload hx hb dX2_act_28 (lv_at hl 4 rfl) ?_
        have hPc := hP.sub (ws' := []) [] rfl
        refine ro_calli (va_runU (As := [.int a4]) (rest := []) ⟨hx, hb, hml, hown, hts⟩ (metX9_layOne hf) (va_cwU 1 hts gX2_act_X9_layOne_u11X2 rfl rfl rfl rfl kX9_layOne ⟨Nat.le_of_ble_eq_true rfl, Nat.le_of_ble_eq_true rfl⟩) ⟨PW.blind, va_recv hK hP (ci := 2) (q0 := 0) rfl rfl, fun U hU hW => ⟨rfl, PW.go hU hW hPc hK hN⟩⟩ rfl rfl hl.1 rfl (lv_room (Nat.le_of_ble_eq_true rfl)) dX2_act_30 ⟨Nat.zero_le _, Nat.zero_le _⟩) (fun r_4 hf => ?_)
        refine lv_goto (tgt := 37) hx hb dX2_act_33 (by decide) ?_
        exact W.iret (v := r_4) hx hb hr (fun t ht hW => ⟨r_4, rfl, hf, ht⟩) (fun q h => by cases h) dX2_act_37
  · replace hf := hf.2 c_1
    refine lv_aload_n hx hb dX2_act_5 rfl (lv_at hl 0 rfl) ?_
    refine lv_iload_n hx hb dX2_act_6 rfl (lv_at hl 1 rfl) ?_
    refine lv_iload_n hx hb dX2_act_7 rfl (lv_at hl 2 rfl) ?_
    refine lv_iload_n hx hb dX2_act_8 rfl (lv_at hl 3 rfl) ?_
    refine lv_iload hx hb dX2_act_9 (lv_at hl 4 rfl) ?_
    refine lv_iload hx hb dX2_act_11 (lv_at hl 5 rfl) ?_
    have hPc := hP.sub (ws' := [(h0, .inr (2, []))]) [0] rfl
    refine ro_calli (va_runSU (As := [.int a1, .int a2, .int a3, .int a4, .int a5]) (rest := []) (clsAt hK (ci := 2) rfl) ⟨hx, hb, hml, hown, hts⟩ (metX9_act_X2 hf) (va_cwSU 5 hts gX2_act_X9_act_s7 rfl rfl rfl kkX9_act ⟨Nat.le_of_ble_eq_true rfl, Nat.le_of_ble_eq_true rfl⟩) ⟨PW.blind, va_recv hK hPc (ci := 2) (q0 := 0) rfl rfl, fun U hU hW => ⟨rfl, PW.go hU hW hPc hK hN⟩⟩ rfl rfl hl.1 rfl (lv_room (Nat.le_of_ble_eq_true rfl)) dX2_act_13 ⟨Nat.zero_le _, Nat.zero_le _⟩) (fun r_5 hf => ?_)
    exact W.iret (v := r_5) hx hb hr (fun t ht hW => ⟨r_5, rfl, hf, ht⟩) (fun q h => by cases h) dX2_act_16
set_option maxHeartbeats 4000000 in
set_option maxRecDepth 100000 in
theorem metX1_act {h0 : Nat} {a1 : Int32} {a2 : Int32} {a3 : Int32} {a4 : Int32} {a5 : Int32} {k : Int32 → Prop} (hf : pX1_act a4 k) : Met l yX1_act wsX1_act ({ frames := 2, cells := 0, slots := 0, locals := 46 } : Room) (va_Pc [.ref h0, .int a1, .int a2, .int a3, .int a4, .int a5] (PW dC dI (TYS cI cL cB cZ cT cR) [(h0, .inr (1, []))])) (roQi k) 0 0 (fun _ => False) := by
  refine Met.ofW (cc := cX1_act) (maxL := 7) (ret := (some .int)) (by decide) rfl ?_
  intro p e s m args below meth c s₁ B hml hv
  obtain ⟨rfl, hP, hK, hN⟩ := hv
  have C : CX p s m _ meth c cX1_act 7 wsX1_act RX1 (some .int) := ⟨B.exec, B.bytes, hml, findClass_of_methodNamed B.named, atoms_spec (ws := wsX1_act) B.pre, B.returns, B.notSynchronized⟩
  obtain ⟨hx, hb, -, hown, hts, hr, hlocks⟩ := id C
  have hl := lv_entry ([.ref h0, .int a1, .int a2, .int a3, .int a4, .int a5]) (n := 7) (Nat.le_of_ble_eq_true rfl)
  rw [lg_entry_eq]
  generalize (lg_sl ([.ref h0, .int a1, .int a2, .int a3, .int a4, .int a5]) ++ List.replicate (7 - (lg_sl ([.ref h0, .int a1, .int a2, .int a3, .int a4, .int a5])).length) Slot.unset).toArray = ls at hl ⊢
  have hl : lv_has ls 7 [(0, .ref h0), (1, .int a1), (2, .int a2), (3, .int a3), (4, .int a4), (5, .int a5)] := hl
  unfold pX1_act at hf
  refine lv_aload_n hx hb dX1_act_0 rfl (lv_at hl 0 rfl) ?_
  refine lv_iload_n hx hb dX1_act_1 rfl (lv_at hl 1 rfl) ?_
  refine lv_iload_n hx hb dX1_act_2 rfl (lv_at hl 2 rfl) ?_
  refine lv_iload_n hx hb dX1_act_3 rfl (lv_at hl 3 rfl) ?_
  refine lv_iload hx hb dX1_act_4 (lv_at hl 4 rfl) ?_
  refine lv_iload hx hb dX1_act_6 (lv_at hl 5 rfl) ?_
  have hPc := hP.sub (ws' := [(h0, .inr (1, []))]) [0] rfl
  refine ro_calli (va_runSU (As := [.int a1, .int a2, .int a3, .int a4, .int a5]) (rest := []) (clsAt hK (ci := 1) rfl) ⟨hx, hb, hml, hown, hts⟩ (metX9_act_X1 hf) (va_cwSU 5 hts gX1_act_X9_act_s7 rfl rfl rfl kkX9_act ⟨Nat.le_of_ble_eq_true rfl, Nat.le_of_ble_eq_true rfl⟩) ⟨PW.blind, va_recv hK hPc (ci := 1) (q0 := 0) rfl rfl, fun U hU hW => ⟨rfl, PW.go hU hW hPc hK hN⟩⟩ rfl rfl hl.1 rfl (lv_room (Nat.le_of_ble_eq_true rfl)) dX1_act_8 ⟨Nat.zero_le _, Nat.zero_le _⟩) (fun r_1 hf => ?_)
  refine lv_istore (lv' := [(6, .int r_1), (0, .ref h0), (1, .int a1), (2, .int a2), (3, .int a3), (4, .int a4), (5, .int a5)]) hx hb dX1_act_11 hl (by decide) rfl (fun ls hl => ?_)
  refine lv_iload hx hb dX1_act_13 (lv_at hl 0 rfl) ?_
  refine lv_aload_n hx hb dX1_act_15 rfl (lv_at hl 1 rfl) ?_
  refine lv_iload_n hx hb dX1_act_16 rfl (lv_at hl 2 rfl) ?_
  refine lv_iload_n hx hb dX1_act_17 rfl (lv_at hl 3 rfl) ?_
  refine lv_iload_n hx hb dX1_act_18 rfl (lv_at hl 4 rfl) ?_
  refine lv_iload hx hb dX1_act_19 (lv_at hl 5 rfl) ?_
  refine lv_iload hx hb dX1_act_21 (lv_at hl 0 rfl) ?_
  refine lv_iadd hx hb dX1_act_23 ?_
  refine lv_iload hx hb dX1_act_24 (lv_at hl 6 rfl) ?_
  have hPc := hP.sub (ws' := [(h0, .inr (1, []))]) [0] rfl
  refine ro_calli (va_runSU (As := [.int a1, .int a2, .int a3, .int (a4 + r_1), .int a5]) (rest := [.int r_1]) (clsAt hK (ci := 1) rfl) ⟨hx, hb, hml, hown, hts⟩ (metX9_act_X1 hf) (va_cwSU 5 hts gX1_act_X9_act_s7 rfl rfl rfl kkX9_act ⟨Nat.le_of_ble_eq_true rfl, Nat.le_of_ble_eq_true rfl⟩) ⟨PW.blind, va_recv hK hPc (ci := 1) (q0 := 0) rfl rfl, fun U hU hW => ⟨rfl, PW.go hU hW hPc hK hN⟩⟩ rfl rfl hl.1 rfl (lv_room (Nat.le_of_ble_eq_true rfl)) dX1_act_26 ⟨Nat.zero_le _, Nat.zero_le _⟩) (fun r_2 hf => ?_)
  refine lv_iadd hx hb dX1_act_29 ?_
  exact W.iret (v := (r_1 + r_2)) hx hb hr (fun t ht hW => ⟨(r_1 + r_2), rfl, hf, ht⟩) (fun q h => by cases h) dX1_act_30
set_option maxHeartbeats 4000000 in
set_option maxRecDepth 100000 in
theorem metX0_act {h0 : Nat} {a1 : Int32} {a2 : Int32} {a3 : Int32} {a4 : Int32} {a5 : Int32} {k : Int32 → Prop} (hf : pX0_act a1 a2 a3 a4 k) : Met l yX0_act wsX0_act ({ frames := 2, cells := 0, slots := 0, locals := 46 } : Room) (va_Pc [.ref h0, .int a1, .int a2, .int a3, .int a4, .int a5] (PW dC dI (TYS cI cL cB cZ cT cR) [(h0, .inr (0, []))])) (roQi k) 0 0 (fun _ => False) := by
  refine Met.ofW (cc := cX0_act) (maxL := 6) (ret := (some .int)) (by decide) rfl ?_
  intro p e s m args below meth c s₁ B hml hv
  obtain ⟨rfl, hP, hK, hN⟩ := hv
  have C : CX p s m _ meth c cX0_act 6 wsX0_act RX0 (some .int) := ⟨B.exec, B.bytes, hml, findClass_of_methodNamed B.named, atoms_spec (ws := wsX0_act) B.pre, B.returns, B.notSynchronized⟩
  obtain ⟨hx, hb, -, hown, hts, hr, hlocks⟩ := id C
  have hl := lv_entry ([.ref h0, .int a1, .int a2, .int a3, .int a4, .int a5]) (n := 6) (Nat.le_of_ble_eq_true rfl)
  rw [lg_entry_eq]
  generalize (lg_sl ([.ref h0, .int a1, .int a2, .int a3, .int a4, .int a5]) ++ List.replicate (6 - (lg_sl ([.ref h0, .int a1, .int a2, .int a3, .int a4, .int a5])).length) Slot.unset).toArray = ls at hl ⊢
  have hl : lv_has ls 6 [(0, .ref h0), (1, .int a1), (2, .int a2), (3, .int a3), (4, .int a4), (5, .int a5)] := hl
  unfold pX0_act at hf
  refine lv_iload_n hx hb dX0_act_0 rfl (lv_at hl 1 rfl) ?_
  refine lv_iconst (v := (2 : Int32)) hx hb dX0_act_1 (by decide) ?_
  refine lv_irem hx hb dX0_act_2 (by decide) ?_
  refine lv_if_ne (tgt := 20) hx hb dX0_act_3 (by decide) (fun c_1 => ?_) (fun c_1 => ?_)
  · replace hf := hf.2 c_1
    refine lv_iconst (v := (0 : Int32)) hx hb dX0_act_20 (by decide) ?_
    exact W.iret (v := (0 : Int32)) hx hb hr (fun t ht hW => ⟨(0 : Int32), rfl, hf, ht⟩) (fun q h => by cases h) dX0_act_21
  · replace hf := hf.1 c_1
    refine lv_aload_n hx hb dX0_act_6 rfl (lv_at hl 0 rfl) ?_
    refine lv_iload_n hx hb dX0_act_7 rfl (lv_at hl 1 rfl) ?_
    refine lv_iload_n hx hb dX0_act_8 rfl (lv_at hl 2 rfl) ?_
    refine lv_iload_n hx hb dX0_act_9 rfl (lv_at hl 3 rfl) ?_
    refine lv_iload hx hb dX0_act_10 (lv_at hl 4 rfl) ?_
    refine lv_iload hx hb dX0_act_12 (lv_at hl 5 rfl) ?_
    have hPc := hP.sub (ws' := [(h0, .inr (0, []))]) [0] rfl
    refine ro_calli (va_runSU (As := [.int a1, .int a2, .int a3, .int a4, .int a5]) (rest := []) (clsAt hK (ci := 0) rfl) ⟨hx, hb, hml, hown, hts⟩ (metX10_act_X0 hf) (va_cwSU 5 hts gX0_act_X10_act_s7 rfl rfl rfl kkX10_act ⟨Nat.le_of_ble_eq_true rfl, Nat.le_of_ble_eq_true rfl⟩) ⟨PW.blind, va_recv hK hPc (ci := 0) (q0 := 0) rfl rfl, fun U hU hW => ⟨rfl, PW.go hU hW hPc hK hN⟩⟩ rfl rfl hl.1 rfl (lv_room (Nat.le_of_ble_eq_true rfl)) dX0_act_14 ⟨Nat.zero_le _, Nat.zero_le _⟩) (fun r_2 hf => ?_)
    refine lv_goto (tgt := 21) hx hb dX0_act_17 (by decide) ?_
    exact W.iret (v := r_2) hx hb hr (fun t ht hW => ⟨r_2, rfl, hf, ht⟩) (fun q h => by cases h) dX0_act_21
set_option maxHeartbeats 4000000 in
set_option maxRecDepth 100000 in
theorem metX8_add {h0 n_ : Nat} {s_ : Nat → Int64} {a1 : Int32} {a2 : Int64} {sz : Nat} {k : (Nat → Int64) → Prop} (hf : pX8_add n_ s_ a1 a2 k) : Met l yX8_add wsX8_add ({ frames := 0, cells := 0, slots := 0, locals := 0 } : Room) (va_Pc [.ref h0, .int a1, .long a2] (PR dC dI (TYS cI cL cB cZ cT cR) [(h0, .inl (cL, n_, .inr (.inl s_)))] sz)) (va_Qv (fun (u : (Nat → Int64)) => k u) (fun (u : (Nat → Int64)) t => va_P (dC, dI) vwCl [(h0, .inl (cL, n_, .inr (.inl u)))] t.heap ∧ va_D (va_A [(h0, .inl (cL, n_, .inr (.inl s_)))] sz) [(h0, .inl (cL, n_, .inr (.inl u)))]) (va_A [(h0, .inl (cL, n_, .inr (.inl s_)))] sz)) 0 0 (va_A [(h0, .inl (cL, n_, .inr (.inl s_)))] sz) := by
  refine Met.ofW (cc := cX8_add) (maxL := 4) (ret := none) (by decide) rfl ?_
  intro p e s m args below meth c s₁ B hml hv
  obtain ⟨rfl, hsz, hP, hK, hN, hD0⟩ := hv
  have C : CX p s m _ meth c cX8_add 4 wsX8_add RX8 none := ⟨B.exec, B.bytes, hml, findClass_of_methodNamed B.named, atoms_spec (ws := wsX8_add) B.pre, B.returns, B.notSynchronized⟩
  obtain ⟨hx, hb, -, hown, hts, hr, hlocks⟩ := id C
  subst hsz
  have hD := hD0.self (sz := s.heap.size)
  generalize hAe : va_A [(h0, .inl (cL, n_, .inr (.inl s_)))] s.heap.size = A at hD ⊢
  have hA : ∀ q : Nat, s.heap.size ≤ q → A q := fun q h => by rw [← hAe]; exact Or.inr h
  have hS : va_S A s.heap s.heap [] := va_S.rf
  have hl := lv_entry ([.ref h0, .int a1, .long a2]) (n := 4) (Nat.le_of_ble_eq_true rfl)
  rw [lg_entry_eq]
  generalize (lg_sl ([.ref h0, .int a1, .long a2]) ++ List.replicate (4 - (lg_sl ([.ref h0, .int a1, .long a2])).length) Slot.unset).toArray = ls at hl ⊢
  have hl : lv_has ls 4 [(0, .ref h0), (1, .int a1), (2, .long a2)] := hl
  unfold pX8_add at hf
  obtain ⟨H, hH⟩ : ∃ H, H = s.heap := ⟨_, rfl⟩
  obtain ⟨locs, hlo⟩ : ∃ L : List Loc, L = [] := ⟨_, rfl⟩
  have hS : va_S A s.heap H locs := by rw [hH, hlo]; exact hS
  rw [← hH] at hP
  have hG : W p l e ({ frames := 0, cells := 0, slots := 0, locals := 0 } : Room) s m [.ref h0, .int a1, .long a2].toArray below meth c H locs 0 0 (MQ below (va_Qv (fun (u : (Nat → Int64)) => k u) (fun (u : (Nat → Int64)) t => va_P (dC, dI) vwCl [(h0, .inl (cL, n_, .inr (.inl u)))] t.heap ∧ va_D A [(h0, .inl (cL, n_, .inr (.inl u)))]) A) [.ref h0, .int a1, .long a2].toArray s 0 0 A) (F0 m 0 ls []) := by
    clear hlo hH hD0
    refine lv_iload_n hx hb dX8_add_0 rfl (lv_at hl 1 rfl) ?_
    refine lv_if_lt (tgt := 17) hx hb dX8_add_1 (by decide) (fun c_1 => ?_) (fun c_1 => ?_)
    · replace hf := hf.1 c_1
      exact W.vret hx hb hr (fun t ht hW => ⟨⟨(s_), rfl, hf, by rw [ht]; exact hP, hD⟩, hS.F ht⟩) hS.2.2 dX8_add_17
    · replace hf := hf.2 c_1
      refine lv_iload_n hx hb dX8_add_4 rfl (lv_at hl 1 rfl) ?_
      refine lv_aload_n hx hb dX8_add_5 rfl (lv_at hl 0 rfl) ?_
      refine va_alen (v := (nI n_)) hx hb hK hP 0 1 rfl rfl rfl dX8_add_6 ?_
      refine lv_icmp_ge (tgt := 17) hx hb dX8_add_7 (by decide) (fun c_2 => ?_) (fun c_2 => ?_)
      · replace hf := hf.1 c_2
        exact W.vret hx hb hr (fun t ht hW => ⟨⟨(s_), rfl, hf, by rw [ht]; exact hP, hD⟩, hS.F ht⟩) hS.2.2 dX8_add_17
      · replace hf := hf.2 c_2
        refine lv_aload_n hx hb dX8_add_10 rfl (lv_at hl 0 rfl) ?_
        refine lv_iload_n hx hb dX8_add_11 rfl (lv_at hl 1 rfl) ?_
        refine lv_dup2_11 hx hb dX8_add_12 rfl rfl ?_
        obtain ⟨h_3, hf⟩ := hf
        refine va_lald hx hb hK hP 0 1 rfl rfl h_3 dX8_add_13 ?_
        refine lv_lload_n hx hb dX8_add_14 rfl (lv_at hl 2 rfl) ?_
        refine lv_ladd hx hb dX8_add_15 ?_
        obtain ⟨h_4, hf⟩ := hf
        refine va_last hx hb hK hP hD hS 0 1 rfl rfl h_4 dX8_add_16 (fun H locs hP hD hS => ?_)
        replace hP : va_P (dC, dI) vwCl [(h0, .inl (cL, n_, .inr (.inl (vp_updL s_ a1.toNatClampNeg ((s_ a1.toNatClampNeg) + a2)))))] H := hP
        replace hD : va_D A [(h0, .inl (cL, n_, .inr (.inl (vp_updL s_ a1.toNatClampNeg ((s_ a1.toNatClampNeg) + a2)))))] := hD
        exact W.vret hx hb hr (fun t ht hW => ⟨⟨((vp_updL s_ a1.toNatClampNeg ((s_ a1.toNatClampNeg) + a2))), rfl, hf, by rw [ht]; exact hP, hD⟩, hS.F ht⟩) hS.2.2 dX8_add_17
  rw [hH, hlo] at hG
  exact hG
set_option maxHeartbeats 4000000 in
set_option maxRecDepth 100000 in
theorem metX8_startAt {h0 r_later h1 : Nat} {s_now : Nat → Int64} {a1 : Int32} {sz : Nat} {k : (Nat → Int64) → Prop} (hf : pX8_startAt s_now a1 k) : Met l yX8_startAt wsX8_startAt ({ frames := 1, cells := 0, slots := 0, locals := 24 } : Room) (va_Pc [.ref h0, .int a1] (PR dC dI (TYS cI cL cB cZ cT cR) [(h0, .inr (8, [.ref h1, .ref r_later])), (h1, .inl (cL, 31, .inr (.inl s_now)))] sz)) (va_Qv (fun (u : (Nat → Int64)) => k u) (fun (u : (Nat → Int64)) t => va_P (dC, dI) vwCl [(h0, .inr (8, [.ref h1, .ref r_later])), (h1, .inl (cL, 31, .inr (.inl u)))] t.heap ∧ va_D (va_A [(h0, .inr (8, [.ref h1, .ref r_later])), (h1, .inl (cL, 31, .inr (.inl s_now)))] sz) [(h0, .inr (8, [.ref h1, .ref r_later])), (h1, .inl (cL, 31, .inr (.inl u)))]) (va_A [(h0, .inr (8, [.ref h1, .ref r_later])), (h1, .inl (cL, 31, .inr (.inl s_now)))] sz)) 0 0 (va_A [(h0, .inr (8, [.ref h1, .ref r_later])), (h1, .inl (cL, 31, .inr (.inl s_now)))] sz) := by
  refine Met.ofW (cc := cX8_startAt) (maxL := 2) (ret := none) (by decide) rfl ?_
  intro p e s m args below meth c s₁ B hml hv
  obtain ⟨rfl, hsz, hP, hK, hN, hD0⟩ := hv
  have C : CX p s m _ meth c cX8_startAt 2 wsX8_startAt RX8 none := ⟨B.exec, B.bytes, hml, findClass_of_methodNamed B.named, atoms_spec (ws := wsX8_startAt) B.pre, B.returns, B.notSynchronized⟩
  obtain ⟨hx, hb, -, hown, hts, hr, hlocks⟩ := id C
  subst hsz
  have hD := hD0.self (sz := s.heap.size)
  generalize hAe : va_A [(h0, .inr (8, [.ref h1, .ref r_later])), (h1, .inl (cL, 31, .inr (.inl s_now)))] s.heap.size = A at hD ⊢
  have hA : ∀ q : Nat, s.heap.size ≤ q → A q := fun q h => by rw [← hAe]; exact Or.inr h
  have hS : va_S A s.heap s.heap [] := va_S.rf
  have hl := lv_entry ([.ref h0, .int a1]) (n := 2) (Nat.le_of_ble_eq_true rfl)
  rw [lg_entry_eq]
  generalize (lg_sl ([.ref h0, .int a1]) ++ List.replicate (2 - (lg_sl ([.ref h0, .int a1])).length) Slot.unset).toArray = ls at hl ⊢
  have hl : lv_has ls 2 [(0, .ref h0), (1, .int a1)] := hl
  unfold pX8_startAt at hf
  obtain ⟨H, hH⟩ : ∃ H, H = s.heap := ⟨_, rfl⟩
  obtain ⟨locs, hlo⟩ : ∃ L : List Loc, L = [] := ⟨_, rfl⟩
  have hS : va_S A s.heap H locs := by rw [hH, hlo]; exact hS
  rw [← hH] at hP
  have hG : W p l e ({ frames := 1, cells := 0, slots := 0, locals := 24 } : Room) s m [.ref h0, .int a1].toArray below meth c H locs 0 0 (MQ below (va_Qv (fun (u : (Nat → Int64)) => k u) (fun (u : (Nat → Int64)) t => va_P (dC, dI) vwCl [(h0, .inr (8, [.ref h1, .ref r_later])), (h1, .inl (cL, 31, .inr (.inl u)))] t.heap ∧ va_D A [(h0, .inr (8, [.ref h1, .ref r_later])), (h1, .inl (cL, 31, .inr (.inl u)))]) A) [.ref h0, .int a1].toArray s 0 0 A) (F0 m 0 ls []) := by
    clear hlo hH hD0
    refine lv_aload_n hx hb dX8_startAt_0 rfl (lv_at hl 0 rfl) ?_
    refine va_get (D := (dC, dI)) (ci := 8) (v := .ref h1) (C := RX8) (T := TX8) (N := 2) hx hb hts iX8_startAt_X8 hown hK hP 0 rfl rfl 0 (by decide) (hts _ mX8_startAt_f9) (fun _ h9 => h9) rfl dX8_startAt_1 ?_
    refine lv_lconst (v := (0 : Int64)) hx hb dX8_startAt_4 (by decide) ?_
    have hPc := hP.sub (ws' := [(h1, .inl (cL, 31, .inr (.inl s_now)))]) [1] rfl
    have hDc := hD.sub (ws' := [(h1, .inl (cL, 31, .inr (.inl s_now)))]) [1] (by decide) rfl
    have hFc := va_free (wc := [(h1, .inl (cL, 31, .inr (.inl s_now)))]) hD hS hA [1] rfl
    refine va_callv (va_runS (As := [.ref h1, .long (0 : Int64)]) (rest := []) ⟨hx, hb, hml, hown, hts⟩ (metJ7_fill_d0a16 (sz := H.size) hf) (va_cwS 2 hts gX8_startAt_J7_fill_d0a16 rfl rfl rfl kJ7_fill_d0a16 ⟨Nat.le_of_ble_eq_true rfl, Nat.le_of_ble_eq_true rfl⟩) ⟨PR.blind, fun U hU hW => ⟨rfl, PR.go hU hW hPc hDc hK hN⟩⟩ rfl rfl hl.1 rfl (lv_room (Nat.le_of_ble_eq_true rfl)) dX8_startAt_5 ⟨Nat.zero_le _, Nat.zero_le _⟩) hS (fun q _ h => hFc q h) hFc (fun u t H1 locs ht hvm hf hB hz1 hk1 hS => ?_)
    obtain ⟨s_now_1, rfl⟩ : ∃ z, z = u := ⟨_, rfl⟩
    have hP1 : va_P (dC, dI) vwCl [(h1, .inl (cL, 31, .inr (.inl s_now_1)))] H1 := by rw [← ht]; exact hB.1
    have hD1 : va_D (va_A [(h1, .inl (cL, 31, .inr (.inl s_now)))] H.size) [(h1, .inl (cL, 31, .inr (.inl s_now_1)))] := hB.2
    obtain ⟨hP, hD⟩ := jn (wr := [(h0, .inr (8, [.ref h1, .ref r_later]))]) (ws' := [(h0, .inr (8, [.ref h1, .ref r_later])), (h1, .inl (cL, 31, .inr (.inl s_now_1)))]) hP hD [1] [0] rfl rfl (by decide) (by decide) hk1 hFc hP1 hD1 [0, 1] (by decide) rfl
    clear hP1 hD1 hB hk1 hz1 hvm ht hPc hDc hFc
    generalize H1 = H at hP hS ⊢
    try dsimp only at hf
    refine lv_aload_n hx hb dX8_startAt_8 rfl (lv_at hl 0 rfl) ?_
    refine va_get (D := (dC, dI)) (ci := 8) (v := .ref h1) (C := RX8) (T := TX8) (N := 2) hx hb hts iX8_startAt_X8 hown hK hP 0 rfl rfl 0 (by decide) (hts _ mX8_startAt_f9) (fun _ h9 => h9) rfl dX8_startAt_9 ?_
    refine lv_iload_n hx hb dX8_startAt_12 rfl (lv_at hl 1 rfl) ?_
    refine lv_lconst (v := (1 : Int64)) hx hb dX8_startAt_13 (by decide) ?_
    have hPc := hP.sub (ws' := [(h1, .inl (cL, 31, .inr (.inl s_now_1)))]) [1] rfl
    have hDc := hD.sub (ws' := [(h1, .inl (cL, 31, .inr (.inl s_now_1)))]) [1] (by decide) rfl
    have hFc := va_free (wc := [(h1, .inl (cL, 31, .inr (.inl s_now_1)))]) hD hS hA [1] rfl
    refine va_callv (va_runS (As := [.ref h1, .int a1, .long (1 : Int64)]) (rest := []) ⟨hx, hb, hml, hown, hts⟩ (metX8_add (sz := H.size) hf) (va_cwS 3 hts gX8_startAt_X8_add rfl rfl rfl kX8_add ⟨Nat.le_of_ble_eq_true rfl, Nat.le_of_ble_eq_true rfl⟩) ⟨PR.blind, fun U hU hW => ⟨rfl, PR.go hU hW hPc hDc hK hN⟩⟩ rfl rfl hl.1 rfl (lv_room (Nat.le_of_ble_eq_true rfl)) dX8_startAt_14 ⟨Nat.zero_le _, Nat.zero_le _⟩) hS (fun q _ h => hFc q h) hFc (fun u t H1 locs ht hvm hf hB hz1 hk1 hS => ?_)
    obtain ⟨s_now_2, rfl⟩ : ∃ z, z = u := ⟨_, rfl⟩
    have hP1 : va_P (dC, dI) vwCl [(h1, .inl (cL, 31, .inr (.inl s_now_2)))] H1 := by rw [← ht]; exact hB.1
    have hD1 : va_D (va_A [(h1, .inl (cL, 31, .inr (.inl s_now_1)))] H.size) [(h1, .inl (cL, 31, .inr (.inl s_now_2)))] := hB.2
    obtain ⟨hP, hD⟩ := jn (wr := [(h0, .inr (8, [.ref h1, .ref r_later]))]) (ws' := [(h0, .inr (8, [.ref h1, .ref r_later])), (h1, .inl (cL, 31, .inr (.inl s_now_2)))]) hP hD [1] [0] rfl rfl (by decide) (by decide) hk1 hFc hP1 hD1 [0, 1] (by decide) rfl
    clear hP1 hD1 hB hk1 hz1 hvm ht hPc hDc hFc
    generalize H1 = H at hP hS ⊢
    try dsimp only at hf
    exact W.vret hx hb hr (fun t ht hW => ⟨⟨(s_now_2), rfl, hf, by rw [ht]; exact hP, hD⟩, hS.F ht⟩) hS.2.2 dX8_startAt_17
  rw [hH, hlo] at hG
  exact hG
set_option maxHeartbeats 4000000 in
set_option maxRecDepth 100000 in
theorem wX8_keepOnly_2 {p : Program} {e : Env} {s : State} {m : MethodId} {args : Array Value} {below : List Frame} {meth : Method} {c : Code} (C : CX p s m args meth c cX8_keepOnly 3 wsX8_keepOnly RX8 none) (hK : va_K (dC, dI) vwCl (TYS cI cL cB cZ cT cR) s) (hN : NW s) {A : Nat → Prop} (hA : ∀ q : Nat, s.heap.size ≤ q → A q) {h0 r_later h1 : Nat} {k : (Nat → Int64) → Prop} {kx : (Nat → Int64) → Prop} (hkx : ∀ (s_now : Nat → Int64) (H : Heap) (locs : List Loc) (ls : Array Slot), va_P (dC, dI) vwCl [(h0, .inr (8, [.ref h1, .ref r_later])), (h1, .inl (cL, 31, .inr (.inl s_now)))] H → va_D A [(h0, .inr (8, [.ref h1, .ref r_later])), (h1, .inl (cL, 31, .inr (.inl s_now)))] → va_S A s.heap H locs → lv_has ls 3 [(0, .ref h0)] → kx s_now → W p l e ({ frames := 0, cells := 0, slots := 0, locals := 0 } : Room) s m args below meth c H locs 0 0 (MQ below (va_Qv (fun (u : (Nat → Int64)) => k u) (fun (u : (Nat → Int64)) t => va_P (dC, dI) vwCl [(h0, .inr (8, [.ref h1, .ref r_later])), (h1, .inl (cL, 31, .inr (.inl u)))] t.heap ∧ va_D A [(h0, .inr (8, [.ref h1, .ref r_later])), (h1, .inl (cL, 31, .inr (.inl u)))]) A) args s 0 0 A) (F0 m 26 ls [])) : ∀ (n2 : Nat), ∀ (x1 : Int32) (x2 : Int32) (s_now : Nat → Int64) (H : Heap) (locs : List Loc) (ls : Array Slot), va_P (dC, dI) vwCl [(h0, .inr (8, [.ref h1, .ref r_later])), (h1, .inl (cL, 31, .inr (.inl s_now)))] H → va_D A [(h0, .inr (8, [.ref h1, .ref r_later])), (h1, .inl (cL, 31, .inr (.inl s_now)))] → va_S A s.heap H locs → lv_has ls 3 [(0, .ref h0), (1, .int x1), (2, .int x2)] → pX8_keepOnly_2 kx n2 x1 x2 s_now → W p l e ({ frames := 0, cells := 0, slots := 0, locals := 0 } : Room) s m args below meth c H locs 0 0 (MQ below (va_Qv (fun (u : (Nat → Int64)) => k u) (fun (u : (Nat → Int64)) t => va_P (dC, dI) vwCl [(h0, .inr (8, [.ref h1, .ref r_later])), (h1, .inl (cL, 31, .inr (.inl u)))] t.heap ∧ va_D A [(h0, .inr (8, [.ref h1, .ref r_later])), (h1, .inl (cL, 31, .inr (.inl u)))]) A) args s 0 0 A) (F0 m 2 ls []) := by
  obtain ⟨hx, hb, hml, hown, hts, hr, hlocks⟩ := id C
  intro n2
  induction n2 with
  | zero =>
    intro x1 x2 s_now H locs ls hP hD hS hl hf
    rw [pX8_keepOnly_2] at hf
    exact hf.elim
  | succ n2 ih =>
    intro x1 x2 s_now H locs ls hP hD hS hl hf
    rw [pX8_keepOnly_2] at hf
    refine lv_iload_n hx hb dX8_keepOnly_2 rfl (lv_at hl 2 rfl) ?_
    refine lv_bipush (v := (30 : Int32)) hx hb dX8_keepOnly_3 (by decide) ?_
    refine lv_icmp_gt (tgt := 26) hx hb dX8_keepOnly_5 (by decide) (fun c_1 => ?_) (fun c_1 => ?_)
    · replace hf := hf.1 c_1
      exact hkx s_now H locs ls hP hD hS (lv_sub hl [0] rfl) hf
    · replace hf := hf.2 c_1
      refine lv_iload_n hx hb dX8_keepOnly_8 rfl (lv_at hl 2 rfl) ?_
      refine lv_iload_n hx hb dX8_keepOnly_9 rfl (lv_at hl 1 rfl) ?_
      refine lv_icmp_eq (tgt := 20) hx hb dX8_keepOnly_10 (by decide) (fun c_2 => ?_) (fun c_2 => ?_)
      · replace hf := hf.1 c_2
        refine lv_iinc (v := (x2 + 1)) (lv' := [(2, .int (x2 + 1)), (0, .ref h0), (1, .int x1)]) hx hb dX8_keepOnly_20 hl (k := 2) rfl (by rfl) (by decide) rfl (fun ls hl => ?_)
        refine lv_goto (tgt := 2) hx hb dX8_keepOnly_23 (by decide) ?_
        exact ih x1 (x2 + 1) s_now H locs ls hP hD hS (lv_sub hl [1, 2, 0] rfl) hf
      · replace hf := hf.2 c_2
        refine lv_aload_n hx hb dX8_keepOnly_13 rfl (lv_at hl 0 rfl) ?_
        refine va_get (D := (dC, dI)) (ci := 8) (v := .ref h1) (C := RX8) (T := TX8) (N := 2) hx hb hts iX8_keepOnly_X8 hown hK hP 0 rfl rfl 0 (by decide) (hts _ mX8_keepOnly_f9) (fun _ h9 => h9) rfl dX8_keepOnly_14 ?_
        refine lv_iload_n hx hb dX8_keepOnly_17 rfl (lv_at hl 2 rfl) ?_
        refine lv_lconst (v := (0 : Int64)) hx hb dX8_keepOnly_18 (by decide) ?_
        obtain ⟨h_3, hf⟩ := hf
        refine va_last hx hb hK hP hD hS 1 1 rfl rfl h_3 dX8_keepOnly_19 (fun H locs hP hD hS => ?_)
        replace hP : va_P (dC, dI) vwCl [(h0, .inr (8, [.ref h1, .ref r_later])), (h1, .inl (cL, 31, .inr (.inl (vp_updL s_now x2.toNatClampNeg (0 : Int64)))))] H := hP
        replace hD : va_D A [(h0, .inr (8, [.ref h1, .ref r_later])), (h1, .inl (cL, 31, .inr (.inl (vp_updL s_now x2.toNatClampNeg (0 : Int64)))))] := hD
        refine lv_iinc (v := (x2 + 1)) (lv' := [(2, .int (x2 + 1)), (0, .ref h0), (1, .int x1)]) hx hb dX8_keepOnly_20 hl (k := 2) rfl (by rfl) (by decide) rfl (fun ls hl => ?_)
        refine lv_goto (tgt := 2) hx hb dX8_keepOnly_23 (by decide) ?_
        exact ih x1 (x2 + 1) (vp_updL s_now x2.toNatClampNeg (0 : Int64)) H locs ls hP hD hS (lv_sub hl [1, 2, 0] rfl) hf
set_option maxHeartbeats 4000000 in
set_option maxRecDepth 100000 in
theorem metX8_keepOnly {h0 r_later h1 : Nat} {s_now : Nat → Int64} {a1 : Int32} {sz : Nat} {k : (Nat → Int64) → Prop} (hf : pX8_keepOnly s_now a1 k) : Met l yX8_keepOnly wsX8_keepOnly ({ frames := 0, cells := 0, slots := 0, locals := 0 } : Room) (va_Pc [.ref h0, .int a1] (PR dC dI (TYS cI cL cB cZ cT cR) [(h0, .inr (8, [.ref h1, .ref r_later])), (h1, .inl (cL, 31, .inr (.inl s_now)))] sz)) (va_Qv (fun (u : (Nat → Int64)) => k u) (fun (u : (Nat → Int64)) t => va_P (dC, dI) vwCl [(h0, .inr (8, [.ref h1, .ref r_later])), (h1, .inl (cL, 31, .inr (.inl u)))] t.heap ∧ va_D (va_A [(h0, .inr (8, [.ref h1, .ref r_later])), (h1, .inl (cL, 31, .inr (.inl s_now)))] sz) [(h0, .inr (8, [.ref h1, .ref r_later])), (h1, .inl (cL, 31, .inr (.inl u)))]) (va_A [(h0, .inr (8, [.ref h1, .ref r_later])), (h1, .inl (cL, 31, .inr (.inl s_now)))] sz)) 0 0 (va_A [(h0, .inr (8, [.ref h1, .ref r_later])), (h1, .inl (cL, 31, .inr (.inl s_now)))] sz) := by
  refine Met.ofW (cc := cX8_keepOnly) (maxL := 3) (ret := none) (by decide) rfl ?_
  intro p e s m args below meth c s₁ B hml hv
  obtain ⟨rfl, hsz, hP, hK, hN, hD0⟩ := hv
  have C : CX p s m _ meth c cX8_keepOnly 3 wsX8_keepOnly RX8 none := ⟨B.exec, B.bytes, hml, findClass_of_methodNamed B.named, atoms_spec (ws := wsX8_keepOnly) B.pre, B.returns, B.notSynchronized⟩
  obtain ⟨hx, hb, -, hown, hts, hr, hlocks⟩ := id C
  subst hsz
  have hD := hD0.self (sz := s.heap.size)
  generalize hAe : va_A [(h0, .inr (8, [.ref h1, .ref r_later])), (h1, .inl (cL, 31, .inr (.inl s_now)))] s.heap.size = A at hD ⊢
  have hA : ∀ q : Nat, s.heap.size ≤ q → A q := fun q h => by rw [← hAe]; exact Or.inr h
  have hS : va_S A s.heap s.heap [] := va_S.rf
  have hl := lv_entry ([.ref h0, .int a1]) (n := 3) (Nat.le_of_ble_eq_true rfl)
  rw [lg_entry_eq]
  generalize (lg_sl ([.ref h0, .int a1]) ++ List.replicate (3 - (lg_sl ([.ref h0, .int a1])).length) Slot.unset).toArray = ls at hl ⊢
  have hl : lv_has ls 3 [(0, .ref h0), (1, .int a1)] := hl
  unfold pX8_keepOnly at hf
  obtain ⟨H, hH⟩ : ∃ H, H = s.heap := ⟨_, rfl⟩
  obtain ⟨locs, hlo⟩ : ∃ L : List Loc, L = [] := ⟨_, rfl⟩
  have hS : va_S A s.heap H locs := by rw [hH, hlo]; exact hS
  rw [← hH] at hP
  have hG : W p l e ({ frames := 0, cells := 0, slots := 0, locals := 0 } : Room) s m [.ref h0, .int a1].toArray below meth c H locs 0 0 (MQ below (va_Qv (fun (u : (Nat → Int64)) => k u) (fun (u : (Nat → Int64)) t => va_P (dC, dI) vwCl [(h0, .inr (8, [.ref h1, .ref r_later])), (h1, .inl (cL, 31, .inr (.inl u)))] t.heap ∧ va_D A [(h0, .inr (8, [.ref h1, .ref r_later])), (h1, .inl (cL, 31, .inr (.inl u)))]) A) [.ref h0, .int a1].toArray s 0 0 A) (F0 m 0 ls []) := by
    clear hlo hH hD0
    refine lv_iconst (v := (0 : Int32)) hx hb dX8_keepOnly_0 (by decide) ?_
    refine lv_istore_n (lv' := [(2, .int (0 : Int32)), (0, .ref h0), (1, .int a1)]) hx hb dX8_keepOnly_1 rfl hl (by decide) rfl (fun ls hl => ?_)
    obtain ⟨n2, hf⟩ := hf
    refine wX8_keepOnly_2 C hK hN hA (fun s_now_4 H locs ls hP hD hS hl hf => ?_) n2 a1 (0 : Int32) s_now H locs ls hP hD hS (lv_sub hl [1, 2, 0] rfl) hf
    exact W.vret hx hb hr (fun t ht hW => ⟨⟨(s_now_4), rfl, hf, by rw [ht]; exact hP, hD⟩, hS.F ht⟩) hS.2.2 dX8_keepOnly_26
  rw [hH, hlo] at hG
  exact hG
set_option maxHeartbeats 4000000 in
set_option maxRecDepth 100000 in
theorem wX8_pass_69 {p : Program} {e : Env} {s : State} {m : MethodId} {args : Array Value} {below : List Frame} {meth : Method} {c : Code} (C : CX p s m args meth c cX8_pass 10 wsX8_pass RX8 none) (hK : va_K (dC, dI) vwCl (TYS cI cL cB cZ cT cR) s) (hN : NW s) {A : Nat → Prop} (hA : ∀ q : Nat, s.heap.size ≤ q → A q) {h0 h1 h2 : Nat} {k : (Nat → Int64) → (Nat → Int64) → Prop} {kb : Int32 → Int32 → Int32 → Int32 → Int32 → (Nat → Int64) → (Nat → Int64) → Prop} (hkb : ∀ (x1 : Int32) (x2 : Int32) (x3 : Int32) (x4 : Int32) (x5 : Int32) (s_now : Nat → Int64) (s_later : Nat → Int64) (H : Heap) (locs : List Loc) (ls : Array Slot), va_P (dC, dI) vwCl [(h0, .inr (8, [.ref h1, .ref h2])), (h1, .inl (cL, 31, .inr (.inl s_now))), (h2, .inl (cL, 31, .inr (.inl s_later)))] H → va_D A [(h0, .inr (8, [.ref h1, .ref h2])), (h1, .inl (cL, 31, .inr (.inl s_now))), (h2, .inl (cL, 31, .inr (.inl s_later)))] → va_S A s.heap H locs → lv_has ls 10 [(0, .ref h0), (1, .int x1), (2, .int x2), (3, .int x3), (4, .int x4), (5, .int x5)] → kb x1 x2 x3 x4 x5 s_now s_later → W p l e ({ frames := 1, cells := 0, slots := 0, locals := 64 } : Room) s m args below meth c H locs 0 0 (MQ below (va_Qv (fun (u : (Nat → Int64) × (Nat → Int64)) => k u.1 u.2) (fun (u : (Nat → Int64) × (Nat → Int64)) t => va_P (dC, dI) vwCl [(h0, .inr (8, [.ref h1, .ref h2])), (h1, .inl (cL, 31, .inr (.inl u.1))), (h2, .inl (cL, 31, .inr (.inl u.2)))] t.heap ∧ va_D A [(h0, .inr (8, [.ref h1, .ref h2])), (h1, .inl (cL, 31, .inr (.inl u.1))), (h2, .inl (cL, 31, .inr (.inl u.2)))]) A) args s 0 0 A) (F0 m 11 ls [])) : ∀ (x1 : Int32) (x2 : Int32) (x3 : Int32) (x4 : Int32) (x5 : Int32) (x6 : Int64) (x8 : Int32) (y0 : Int32) (s_now : Nat → Int64) (s_later : Nat → Int64) (H : Heap) (locs : List Loc) (ls : Array Slot), va_P (dC, dI) vwCl [(h0, .inr (8, [.ref h1, .ref h2])), (h1, .inl (cL, 31, .inr (.inl s_now))), (h2, .inl (cL, 31, .inr (.inl s_later)))] H → va_D A [(h0, .inr (8, [.ref h1, .ref h2])), (h1, .inl (cL, 31, .inr (.inl s_now))), (h2, .inl (cL, 31, .inr (.inl s_later)))] → va_S A s.heap H locs → lv_has ls 10 [(0, .ref h0), (1, .int x1), (2, .int x2), (3, .int x3), (4, .int x4), (5, .int x5), (6, .long x6), (8, .int x8)] → pX8_pass_69 kb x1 x2 x3 x4 x5 x6 x8 y0 s_now s_later → W p l e ({ frames := 1, cells := 0, slots := 0, locals := 64 } : Room) s m args below meth c H locs 0 0 (MQ below (va_Qv (fun (u : (Nat → Int64) × (Nat → Int64)) => k u.1 u.2) (fun (u : (Nat → Int64) × (Nat → Int64)) t => va_P (dC, dI) vwCl [(h0, .inr (8, [.ref h1, .ref h2])), (h1, .inl (cL, 31, .inr (.inl u.1))), (h2, .inl (cL, 31, .inr (.inl u.2)))] t.heap ∧ va_D A [(h0, .inr (8, [.ref h1, .ref h2])), (h1, .inl (cL, 31, .inr (.inl u.1))), (h2, .inl (cL, 31, .inr (.inl u.2)))]) A) args s 0 0 A) (F0 m 69 ls [.int y0]) := by
  obtain ⟨hx, hb, hml, hown, hts, hr, hlocks⟩ := id C
  intro x1 x2 x3 x4 x5 x6 x8 y0 s_now s_later H locs ls hP hD hS hl hf
  unfold pX8_pass_69 at hf
  refine lv_istore (lv' := [(9, .int y0), (0, .ref h0), (1, .int x1), (2, .int x2), (3, .int x3), (4, .int x4), (5, .int x5), (6, .long x6), (8, .int x8)]) hx hb dX8_pass_69 hl (by decide) rfl (fun ls hl => ?_)
  refine lv_aload_n hx hb dX8_pass_71 rfl (lv_at hl 1 rfl) ?_
  refine va_get (D := (dC, dI)) (ci := 8) (v := .ref h2) (C := RX8) (T := TX8) (N := 2) hx hb hts iX8_pass_X8 hown hK hP 0 rfl rfl 1 (by decide) (hts _ mX8_pass_f15) (fun _ h9 => h9) rfl dX8_pass_72 ?_
  refine lv_iload hx hb dX8_pass_75 (lv_at hl 8 rfl) ?_
  refine lv_lload hx hb dX8_pass_77 (lv_at hl 7 rfl) ?_
  refine lv_iload_n hx hb dX8_pass_79 rfl (lv_at hl 2 rfl) ?_
  refine lv_i2l (v := x1.toInt64) hx hb dX8_pass_80 rfl ?_
  refine lv_lmul hx hb dX8_pass_81 ?_
  have hPc := hP.sub (ws' := [(h2, .inl (cL, 31, .inr (.inl s_later)))]) [2] rfl
  have hDc := hD.sub (ws' := [(h2, .inl (cL, 31, .inr (.inl s_later)))]) [2] (by decide) rfl
  have hFc := va_free (wc := [(h2, .inl (cL, 31, .inr (.inl s_later)))]) hD hS hA [2] rfl
  refine va_callv (va_runS (As := [.ref h2, .int x8, .long (x6 * x1.toInt64)]) (rest := []) ⟨hx, hb, hml, hown, hts⟩ (metX8_add (sz := H.size) hf) (va_cwS 3 hts gX8_pass_X8_add rfl rfl rfl kX8_add ⟨Nat.le_of_ble_eq_true rfl, Nat.le_of_ble_eq_true rfl⟩) ⟨PR.blind, fun U hU hW => ⟨rfl, PR.go hU hW hPc hDc hK hN⟩⟩ rfl rfl hl.1 rfl (lv_room (Nat.le_of_ble_eq_true rfl)) dX8_pass_82 ⟨Nat.zero_le _, Nat.zero_le _⟩) hS (fun q _ h => hFc q h) hFc (fun u t H1 locs ht hvm hf hB hz1 hk1 hS => ?_)
  obtain ⟨s_later_6, rfl⟩ : ∃ z, z = u := ⟨_, rfl⟩
  have hP1 : va_P (dC, dI) vwCl [(h2, .inl (cL, 31, .inr (.inl s_later_6)))] H1 := by rw [← ht]; exact hB.1
  have hD1 : va_D (va_A [(h2, .inl (cL, 31, .inr (.inl s_later)))] H.size) [(h2, .inl (cL, 31, .inr (.inl s_later_6)))] := hB.2
  obtain ⟨hP, hD⟩ := jn (wr := [(h0, .inr (8, [.ref h1, .ref h2])), (h1, .inl (cL, 31, .inr (.inl s_now)))]) (ws' := [(h0, .inr (8, [.ref h1, .ref h2])), (h1, .inl (cL, 31, .inr (.inl s_now))), (h2, .inl (cL, 31, .inr (.inl s_later_6)))]) hP hD [2] [0, 1] rfl rfl (by decide) (by decide) hk1 hFc hP1 hD1 [0, 1, 2] (by decide) rfl
  clear hP1 hD1 hB hk1 hz1 hvm ht hPc hDc hFc
  generalize H1 = H at hP hS ⊢
  try dsimp only at hf
  refine lv_aload_n hx hb dX8_pass_85 rfl (lv_at hl 1 rfl) ?_
  refine va_get (D := (dC, dI)) (ci := 8) (v := .ref h2) (C := RX8) (T := TX8) (N := 2) hx hb hts iX8_pass_X8 hown hK hP 0 rfl rfl 1 (by decide) (hts _ mX8_pass_f15) (fun _ h9 => h9) rfl dX8_pass_86 ?_
  refine lv_iload hx hb dX8_pass_89 (lv_at hl 6 rfl) ?_
  refine lv_lload hx hb dX8_pass_91 (lv_at hl 7 rfl) ?_
  refine lv_iload_n hx hb dX8_pass_93 rfl (lv_at hl 3 rfl) ?_
  refine lv_i2l (v := x2.toInt64) hx hb dX8_pass_94 rfl ?_
  refine lv_lmul hx hb dX8_pass_95 ?_
  have hPc := hP.sub (ws' := [(h2, .inl (cL, 31, .inr (.inl s_later_6)))]) [2] rfl
  have hDc := hD.sub (ws' := [(h2, .inl (cL, 31, .inr (.inl s_later_6)))]) [2] (by decide) rfl
  have hFc := va_free (wc := [(h2, .inl (cL, 31, .inr (.inl s_later_6)))]) hD hS hA [2] rfl
  refine va_callv (va_runS (As := [.ref h2, .int x5, .long (x6 * x2.toInt64)]) (rest := []) ⟨hx, hb, hml, hown, hts⟩ (metX8_add (sz := H.size) hf) (va_cwS 3 hts gX8_pass_X8_add rfl rfl rfl kX8_add ⟨Nat.le_of_ble_eq_true rfl, Nat.le_of_ble_eq_true rfl⟩) ⟨PR.blind, fun U hU hW => ⟨rfl, PR.go hU hW hPc hDc hK hN⟩⟩ rfl rfl hl.1 rfl (lv_room (Nat.le_of_ble_eq_true rfl)) dX8_pass_96 ⟨Nat.zero_le _, Nat.zero_le _⟩) hS (fun q _ h => hFc q h) hFc (fun u t H1 locs ht hvm hf hB hz1 hk1 hS => ?_)
  obtain ⟨s_later_7, rfl⟩ : ∃ z, z = u := ⟨_, rfl⟩
  have hP1 : va_P (dC, dI) vwCl [(h2, .inl (cL, 31, .inr (.inl s_later_7)))] H1 := by rw [← ht]; exact hB.1
  have hD1 : va_D (va_A [(h2, .inl (cL, 31, .inr (.inl s_later_6)))] H.size) [(h2, .inl (cL, 31, .inr (.inl s_later_7)))] := hB.2
  obtain ⟨hP, hD⟩ := jn (wr := [(h0, .inr (8, [.ref h1, .ref h2])), (h1, .inl (cL, 31, .inr (.inl s_now)))]) (ws' := [(h0, .inr (8, [.ref h1, .ref h2])), (h1, .inl (cL, 31, .inr (.inl s_now))), (h2, .inl (cL, 31, .inr (.inl s_later_7)))]) hP hD [2] [0, 1] rfl rfl (by decide) (by decide) hk1 hFc hP1 hD1 [0, 1, 2] (by decide) rfl
  clear hP1 hD1 hB hk1 hz1 hvm ht hPc hDc hFc
  generalize H1 = H at hP hS ⊢
  try dsimp only at hf
  refine lv_aload_n hx hb dX8_pass_99 rfl (lv_at hl 1 rfl) ?_
  refine va_get (D := (dC, dI)) (ci := 8) (v := .ref h2) (C := RX8) (T := TX8) (N := 2) hx hb hts iX8_pass_X8 hown hK hP 0 rfl rfl 1 (by decide) (hts _ mX8_pass_f15) (fun _ h9 => h9) rfl dX8_pass_100 ?_
  refine lv_iload hx hb dX8_pass_103 (lv_at hl 0 rfl) ?_
  refine lv_lload hx hb dX8_pass_105 (lv_at hl 7 rfl) ?_
  refine lv_iload_n hx hb dX8_pass_107 rfl (lv_at hl 4 rfl) ?_
  refine lv_i2l (v := x3.toInt64) hx hb dX8_pass_108 rfl ?_
  refine lv_lmul hx hb dX8_pass_109 ?_
  have hPc := hP.sub (ws' := [(h2, .inl (cL, 31, .inr (.inl s_later_7)))]) [2] rfl
  have hDc := hD.sub (ws' := [(h2, .inl (cL, 31, .inr (.inl s_later_7)))]) [2] (by decide) rfl
  have hFc := va_free (wc := [(h2, .inl (cL, 31, .inr (.inl s_later_7)))]) hD hS hA [2] rfl
  refine va_callv (va_runS (As := [.ref h2, .int y0, .long (x6 * x3.toInt64)]) (rest := []) ⟨hx, hb, hml, hown, hts⟩ (metX8_add (sz := H.size) hf) (va_cwS 3 hts gX8_pass_X8_add rfl rfl rfl kX8_add ⟨Nat.le_of_ble_eq_true rfl, Nat.le_of_ble_eq_true rfl⟩) ⟨PR.blind, fun U hU hW => ⟨rfl, PR.go hU hW hPc hDc hK hN⟩⟩ rfl rfl hl.1 rfl (lv_room (Nat.le_of_ble_eq_true rfl)) dX8_pass_110 ⟨Nat.zero_le _, Nat.zero_le _⟩) hS (fun q _ h => hFc q h) hFc (fun u t H1 locs ht hvm hf hB hz1 hk1 hS => ?_)
  obtain ⟨s_later_8, rfl⟩ : ∃ z, z = u := ⟨_, rfl⟩
  have hP1 : va_P (dC, dI) vwCl [(h2, .inl (cL, 31, .inr (.inl s_later_8)))] H1 := by rw [← ht]; exact hB.1
  have hD1 : va_D (va_A [(h2, .inl (cL, 31, .inr (.inl s_later_7)))] H.size) [(h2, .inl (cL, 31, .inr (.inl s_later_8)))] := hB.2
  obtain ⟨hP, hD⟩ := jn (wr := [(h0, .inr (8, [.ref h1, .ref h2])), (h1, .inl (cL, 31, .inr (.inl s_now)))]) (ws' := [(h0, .inr (8, [.ref h1, .ref h2])), (h1, .inl (cL, 31, .inr (.inl s_now))), (h2, .inl (cL, 31, .inr (.inl s_later_8)))]) hP hD [2] [0, 1] rfl rfl (by decide) (by decide) hk1 hFc hP1 hD1 [0, 1, 2] (by decide) rfl
  clear hP1 hD1 hB hk1 hz1 hvm ht hPc hDc hFc
  generalize H1 = H at hP hS ⊢
  try dsimp only at hf
  refine lv_iinc (v := (x5 + 1)) (lv' := [(5, .int (x5 + 1)), (9, .int y0), (0, .ref h0), (1, .int x1), (2, .int x2), (3, .int x3), (4, .int x4), (6, .long x6), (8, .int x8)]) hx hb dX8_pass_113 hl (k := 6) rfl (by rfl) (by decide) rfl (fun ls hl => ?_)
  refine lv_goto (tgt := 11) hx hb dX8_pass_116 (by decide) ?_
  exact hkb x1 x2 x3 x4 (x5 + 1) s_now s_later_8 H locs ls hP hD hS (lv_sub hl [2, 3, 4, 5, 6, 0] rfl) hf
set_option maxHeartbeats 4000000 in
set_option maxRecDepth 100000 in
theorem wX8_pass_60 {p : Program} {e : Env} {s : State} {m : MethodId} {args : Array Value} {below : List Frame} {meth : Method} {c : Code} (C : CX p s m args meth c cX8_pass 10 wsX8_pass RX8 none) (hK : va_K (dC, dI) vwCl (TYS cI cL cB cZ cT cR) s) (hN : NW s) {A : Nat → Prop} (hA : ∀ q : Nat, s.heap.size ≤ q → A q) {h0 h1 h2 : Nat} {k : (Nat → Int64) → (Nat → Int64) → Prop} {kb : Int32 → Int32 → Int32 → Int32 → Int32 → (Nat → Int64) → (Nat → Int64) → Prop} (hkb : ∀ (x1 : Int32) (x2 : Int32) (x3 : Int32) (x4 : Int32) (x5 : Int32) (s_now : Nat → Int64) (s_later : Nat → Int64) (H : Heap) (locs : List Loc) (ls : Array Slot), va_P (dC, dI) vwCl [(h0, .inr (8, [.ref h1, .ref h2])), (h1, .inl (cL, 31, .inr (.inl s_now))), (h2, .inl (cL, 31, .inr (.inl s_later)))] H → va_D A [(h0, .inr (8, [.ref h1, .ref h2])), (h1, .inl (cL, 31, .inr (.inl s_now))), (h2, .inl (cL, 31, .inr (.inl s_later)))] → va_S A s.heap H locs → lv_has ls 10 [(0, .ref h0), (1, .int x1), (2, .int x2), (3, .int x3), (4, .int x4), (5, .int x5)] → kb x1 x2 x3 x4 x5 s_now s_later → W p l e ({ frames := 1, cells := 0, slots := 0, locals := 64 } : Room) s m args below meth c H locs 0 0 (MQ below (va_Qv (fun (u : (Nat → Int64) × (Nat → Int64)) => k u.1 u.2) (fun (u : (Nat → Int64) × (Nat → Int64)) t => va_P (dC, dI) vwCl [(h0, .inr (8, [.ref h1, .ref h2])), (h1, .inl (cL, 31, .inr (.inl u.1))), (h2, .inl (cL, 31, .inr (.inl u.2)))] t.heap ∧ va_D A [(h0, .inr (8, [.ref h1, .ref h2])), (h1, .inl (cL, 31, .inr (.inl u.1))), (h2, .inl (cL, 31, .inr (.inl u.2)))]) A) args s 0 0 A) (F0 m 11 ls [])) : ∀ (x1 : Int32) (x2 : Int32) (x3 : Int32) (x4 : Int32) (x5 : Int32) (x6 : Int64) (x8 : Int32) (s_now : Nat → Int64) (s_later : Nat → Int64) (H : Heap) (locs : List Loc) (ls : Array Slot), va_P (dC, dI) vwCl [(h0, .inr (8, [.ref h1, .ref h2])), (h1, .inl (cL, 31, .inr (.inl s_now))), (h2, .inl (cL, 31, .inr (.inl s_later)))] H → va_D A [(h0, .inr (8, [.ref h1, .ref h2])), (h1, .inl (cL, 31, .inr (.inl s_now))), (h2, .inl (cL, 31, .inr (.inl s_later)))] → va_S A s.heap H locs → lv_has ls 10 [(0, .ref h0), (1, .int x1), (2, .int x2), (3, .int x3), (4, .int x4), (5, .int x5), (6, .long x6), (8, .int x8)] → pX8_pass_60 kb x1 x2 x3 x4 x5 x6 x8 s_now s_later → W p l e ({ frames := 1, cells := 0, slots := 0, locals := 64 } : Room) s m args below meth c H locs 0 0 (MQ below (va_Qv (fun (u : (Nat → Int64) × (Nat → Int64)) => k u.1 u.2) (fun (u : (Nat → Int64) × (Nat → Int64)) t => va_P (dC, dI) vwCl [(h0, .inr (8, [.ref h1, .ref h2])), (h1, .inl (cL, 31, .inr (.inl u.1))), (h2, .inl (cL, 31, .inr (.inl u.2)))] t.heap ∧ va_D A [(h0, .inr (8, [.ref h1, .ref h2])), (h1, .inl (cL, 31, .inr (.inl u.1))), (h2, .inl (cL, 31, .inr (.inl u.2)))]) A) args s 0 0 A) (F0 m 60 ls []) := by
  obtain ⟨hx, hb, hml, hown, hts, hr, hlocks⟩ := id C
  intro x1 x2 x3 x4 x5 x6 x8 s_now s_later H locs ls hP hD hS hl hf
  unfold pX8_pass_60 at hf
  refine lv_iload hx hb dX8_pass_60 (lv_at hl 5 rfl) ?_
  refine lv_iconst (v := (1 : Int32)) hx hb dX8_pass_62 (by decide) ?_
  refine lv_iadd hx hb dX8_pass_63 ?_
  refine lv_goto (tgt := 69) hx hb dX8_pass_64 (by decide) ?_
  exact wX8_pass_69 C hK hN hA hkb x1 x2 x3 x4 x5 x6 x8 (x5 + (1 : Int32)) s_now s_later H locs ls hP hD hS (lv_sub hl [0, 1, 2, 3, 4, 5, 6, 7] rfl) hf
set_option maxHeartbeats 4000000 in
set_option maxRecDepth 100000 in
theorem wX8_pass_46 {p : Program} {e : Env} {s : State} {m : MethodId} {args : Array Value} {below : List Frame} {meth : Method} {c : Code} (C : CX p s m args meth c cX8_pass 10 wsX8_pass RX8 none) (hK : va_K (dC, dI) vwCl (TYS cI cL cB cZ cT cR) s) (hN : NW s) {A : Nat → Prop} (hA : ∀ q : Nat, s.heap.size ≤ q → A q) {h0 h1 h2 : Nat} {k : (Nat → Int64) → (Nat → Int64) → Prop} {kb : Int32 → Int32 → Int32 → Int32 → Int32 → (Nat → Int64) → (Nat → Int64) → Prop} (hkb : ∀ (x1 : Int32) (x2 : Int32) (x3 : Int32) (x4 : Int32) (x5 : Int32) (s_now : Nat → Int64) (s_later : Nat → Int64) (H : Heap) (locs : List Loc) (ls : Array Slot), va_P (dC, dI) vwCl [(h0, .inr (8, [.ref h1, .ref h2])), (h1, .inl (cL, 31, .inr (.inl s_now))), (h2, .inl (cL, 31, .inr (.inl s_later)))] H → va_D A [(h0, .inr (8, [.ref h1, .ref h2])), (h1, .inl (cL, 31, .inr (.inl s_now))), (h2, .inl (cL, 31, .inr (.inl s_later)))] → va_S A s.heap H locs → lv_has ls 10 [(0, .ref h0), (1, .int x1), (2, .int x2), (3, .int x3), (4, .int x4), (5, .int x5)] → kb x1 x2 x3 x4 x5 s_now s_later → W p l e ({ frames := 1, cells := 0, slots := 0, locals := 64 } : Room) s m args below meth c H locs 0 0 (MQ below (va_Qv (fun (u : (Nat → Int64) × (Nat → Int64)) => k u.1 u.2) (fun (u : (Nat → Int64) × (Nat → Int64)) t => va_P (dC, dI) vwCl [(h0, .inr (8, [.ref h1, .ref h2])), (h1, .inl (cL, 31, .inr (.inl u.1))), (h2, .inl (cL, 31, .inr (.inl u.2)))] t.heap ∧ va_D A [(h0, .inr (8, [.ref h1, .ref h2])), (h1, .inl (cL, 31, .inr (.inl u.1))), (h2, .inl (cL, 31, .inr (.inl u.2)))]) A) args s 0 0 A) (F0 m 11 ls [])) : ∀ (x1 : Int32) (x2 : Int32) (x3 : Int32) (x4 : Int32) (x5 : Int32) (x6 : Int64) (y0 : Int32) (s_now : Nat → Int64) (s_later : Nat → Int64) (H : Heap) (locs : List Loc) (ls : Array Slot), va_P (dC, dI) vwCl [(h0, .inr (8, [.ref h1, .ref h2])), (h1, .inl (cL, 31, .inr (.inl s_now))), (h2, .inl (cL, 31, .inr (.inl s_later)))] H → va_D A [(h0, .inr (8, [.ref h1, .ref h2])), (h1, .inl (cL, 31, .inr (.inl s_now))), (h2, .inl (cL, 31, .inr (.inl s_later)))] → va_S A s.heap H locs → lv_has ls 10 [(0, .ref h0), (1, .int x1), (2, .int x2), (3, .int x3), (4, .int x4), (5, .int x5), (6, .long x6)] → pX8_pass_46 kb x1 x2 x3 x4 x5 x6 y0 s_now s_later → W p l e ({ frames := 1, cells := 0, slots := 0, locals := 64 } : Room) s m args below meth c H locs 0 0 (MQ below (va_Qv (fun (u : (Nat → Int64) × (Nat → Int64)) => k u.1 u.2) (fun (u : (Nat → Int64) × (Nat → Int64)) t => va_P (dC, dI) vwCl [(h0, .inr (8, [.ref h1, .ref h2])), (h1, .inl (cL, 31, .inr (.inl u.1))), (h2, .inl (cL, 31, .inr (.inl u.2)))] t.heap ∧ va_D A [(h0, .inr (8, [.ref h1, .ref h2])), (h1, .inl (cL, 31, .inr (.inl u.1))), (h2, .inl (cL, 31, .inr (.inl u.2)))]) A) args s 0 0 A) (F0 m 46 ls [.int y0]) := by
  obtain ⟨hx, hb, hml, hown, hts, hr, hlocks⟩ := id C
  intro x1 x2 x3 x4 x5 x6 y0 s_now s_later H locs ls hP hD hS hl hf
  unfold pX8_pass_46 at hf
  refine lv_istore (lv' := [(8, .int y0), (0, .ref h0), (1, .int x1), (2, .int x2), (3, .int x3), (4, .int x4), (5, .int x5), (6, .long x6)]) hx hb dX8_pass_46 hl (by decide) rfl (fun ls hl => ?_)
  refine lv_iload hx hb dX8_pass_48 (lv_at hl 6 rfl) ?_
  refine lv_bipush (v := (30 : Int32)) hx hb dX8_pass_50 (by decide) ?_
  refine lv_icmp_lt (tgt := 60) hx hb dX8_pass_52 (by decide) (fun c_5 => ?_) (fun c_5 => ?_)
  · replace hf := hf.1 c_5
    exact wX8_pass_60 C hK hN hA hkb x1 x2 x3 x4 x5 x6 y0 s_now s_later H locs ls hP hD hS (lv_sub hl [1, 2, 3, 4, 5, 6, 7, 0] rfl) hf
  · replace hf := hf.2 c_5
    refine lv_iload hx hb dX8_pass_55 (lv_at hl 5 rfl) ?_
    refine lv_if_ne (tgt := 67) hx hb dX8_pass_57 (by decide) (fun c_9 => ?_) (fun c_9 => ?_)
    · replace hf := hf.2 c_9
      refine lv_iload hx hb dX8_pass_67 (lv_at hl 6 rfl) ?_
      exact wX8_pass_69 C hK hN hA hkb x1 x2 x3 x4 x5 x6 y0 x5 s_now s_later H locs ls hP hD hS (lv_sub hl [1, 2, 3, 4, 5, 6, 7, 0] rfl) hf
    · replace hf := hf.1 c_9
      exact wX8_pass_60 C hK hN hA hkb x1 x2 x3 x4 x5 x6 y0 s_now s_later H locs ls hP hD hS (lv_sub hl [1, 2, 3, 4, 5, 6, 7, 0] rfl) hf
set_option maxHeartbeats 4000000 in
set_option maxRecDepth 100000 in
theorem wX8_pass_37 {p : Program} {e : Env} {s : State} {m : MethodId} {args : Array Value} {below : List Frame} {meth : Method} {c : Code} (C : CX p s m args meth c cX8_pass 10 wsX8_pass RX8 none) (hK : va_K (dC, dI) vwCl (TYS cI cL cB cZ cT cR) s) (hN : NW s) {A : Nat → Prop} (hA : ∀ q : Nat, s.heap.size ≤ q → A q) {h0 h1 h2 : Nat} {k : (Nat → Int64) → (Nat → Int64) → Prop} {kb : Int32 → Int32 → Int32 → Int32 → Int32 → (Nat → Int64) → (Nat → Int64) → Prop} (hkb : ∀ (x1 : Int32) (x2 : Int32) (x3 : Int32) (x4 : Int32) (x5 : Int32) (s_now : Nat → Int64) (s_later : Nat → Int64) (H : Heap) (locs : List Loc) (ls : Array Slot), va_P (dC, dI) vwCl [(h0, .inr (8, [.ref h1, .ref h2])), (h1, .inl (cL, 31, .inr (.inl s_now))), (h2, .inl (cL, 31, .inr (.inl s_later)))] H → va_D A [(h0, .inr (8, [.ref h1, .ref h2])), (h1, .inl (cL, 31, .inr (.inl s_now))), (h2, .inl (cL, 31, .inr (.inl s_later)))] → va_S A s.heap H locs → lv_has ls 10 [(0, .ref h0), (1, .int x1), (2, .int x2), (3, .int x3), (4, .int x4), (5, .int x5)] → kb x1 x2 x3 x4 x5 s_now s_later → W p l e ({ frames := 1, cells := 0, slots := 0, locals := 64 } : Room) s m args below meth c H locs 0 0 (MQ below (va_Qv (fun (u : (Nat → Int64) × (Nat → Int64)) => k u.1 u.2) (fun (u : (Nat → Int64) × (Nat → Int64)) t => va_P (dC, dI) vwCl [(h0, .inr (8, [.ref h1, .ref h2])), (h1, .inl (cL, 31, .inr (.inl u.1))), (h2, .inl (cL, 31, .inr (.inl u.2)))] t.heap ∧ va_D A [(h0, .inr (8, [.ref h1, .ref h2])), (h1, .inl (cL, 31, .inr (.inl u.1))), (h2, .inl (cL, 31, .inr (.inl u.2)))]) A) args s 0 0 A) (F0 m 11 ls [])) : ∀ (x1 : Int32) (x2 : Int32) (x3 : Int32) (x4 : Int32) (x5 : Int32) (x6 : Int64) (s_now : Nat → Int64) (s_later : Nat → Int64) (H : Heap) (locs : List Loc) (ls : Array Slot), va_P (dC, dI) vwCl [(h0, .inr (8, [.ref h1, .ref h2])), (h1, .inl (cL, 31, .inr (.inl s_now))), (h2, .inl (cL, 31, .inr (.inl s_later)))] H → va_D A [(h0, .inr (8, [.ref h1, .ref h2])), (h1, .inl (cL, 31, .inr (.inl s_now))), (h2, .inl (cL, 31, .inr (.inl s_later)))] → va_S A s.heap H locs → lv_has ls 10 [(0, .ref h0), (1, .int x1), (2, .int x2), (3, .int x3), (4, .int x4), (5, .int x5), (6, .long x6)] → pX8_pass_37 kb x1 x2 x3 x4 x5 x6 s_now s_later → W p l e ({ frames := 1, cells := 0, slots := 0, locals := 64 } : Room) s m args below meth c H locs 0 0 (MQ below (va_Qv (fun (u : (Nat → Int64) × (Nat → Int64)) => k u.1 u.2) (fun (u : (Nat → Int64) × (Nat → Int64)) t => va_P (dC, dI) vwCl [(h0, .inr (8, [.ref h1, .ref h2])), (h1, .inl (cL, 31, .inr (.inl u.1))), (h2, .inl (cL, 31, .inr (.inl u.2)))] t.heap ∧ va_D A [(h0, .inr (8, [.ref h1, .ref h2])), (h1, .inl (cL, 31, .inr (.inl u.1))), (h2, .inl (cL, 31, .inr (.inl u.2)))]) A) args s 0 0 A) (F0 m 37 ls []) := by
  obtain ⟨hx, hb, hml, hown, hts, hr, hlocks⟩ := id C
  intro x1 x2 x3 x4 x5 x6 s_now s_later H locs ls hP hD hS hl hf
  unfold pX8_pass_37 at hf
  refine lv_iload hx hb dX8_pass_37 (lv_at hl 5 rfl) ?_
  refine lv_iconst (v := (1 : Int32)) hx hb dX8_pass_39 (by decide) ?_
  refine lv_isub hx hb dX8_pass_40 ?_
  refine lv_goto (tgt := 46) hx hb dX8_pass_41 (by decide) ?_
  exact wX8_pass_46 C hK hN hA hkb x1 x2 x3 x4 x5 x6 (x5 - (1 : Int32)) s_now s_later H locs ls hP hD hS (lv_sub hl [0, 1, 2, 3, 4, 5, 6] rfl) hf
set_option maxHeartbeats 4000000 in
set_option maxRecDepth 100000 in
theorem wX8_pass_11 {p : Program} {e : Env} {s : State} {m : MethodId} {args : Array Value} {below : List Frame} {meth : Method} {c : Code} (C : CX p s m args meth c cX8_pass 10 wsX8_pass RX8 none) (hK : va_K (dC, dI) vwCl (TYS cI cL cB cZ cT cR) s) (hN : NW s) {A : Nat → Prop} (hA : ∀ q : Nat, s.heap.size ≤ q → A q) {h0 h1 h2 : Nat} {k : (Nat → Int64) → (Nat → Int64) → Prop} {kx : (Nat → Int64) → (Nat → Int64) → Prop} (hkx : ∀ (s_now : Nat → Int64) (s_later : Nat → Int64) (H : Heap) (locs : List Loc) (ls : Array Slot), va_P (dC, dI) vwCl [(h0, .inr (8, [.ref h1, .ref h2])), (h1, .inl (cL, 31, .inr (.inl s_now))), (h2, .inl (cL, 31, .inr (.inl s_later)))] H → va_D A [(h0, .inr (8, [.ref h1, .ref h2])), (h1, .inl (cL, 31, .inr (.inl s_now))), (h2, .inl (cL, 31, .inr (.inl s_later)))] → va_S A s.heap H locs → lv_has ls 10 [(0, .ref h0)] → kx s_now s_later → W p l e ({ frames := 1, cells := 0, slots := 0, locals := 64 } : Room) s m args below meth c H locs 0 0 (MQ below (va_Qv (fun (u : (Nat → Int64) × (Nat → Int64)) => k u.1 u.2) (fun (u : (Nat → Int64) × (Nat → Int64)) t => va_P (dC, dI) vwCl [(h0, .inr (8, [.ref h1, .ref h2])), (h1, .inl (cL, 31, .inr (.inl u.1))), (h2, .inl (cL, 31, .inr (.inl u.2)))] t.heap ∧ va_D A [(h0, .inr (8, [.ref h1, .ref h2])), (h1, .inl (cL, 31, .inr (.inl u.1))), (h2, .inl (cL, 31, .inr (.inl u.2)))]) A) args s 0 0 A) (F0 m 119 ls [])) : ∀ (n11 : Nat), ∀ (x1 : Int32) (x2 : Int32) (x3 : Int32) (x4 : Int32) (x5 : Int32) (s_now : Nat → Int64) (s_later : Nat → Int64) (H : Heap) (locs : List Loc) (ls : Array Slot), va_P (dC, dI) vwCl [(h0, .inr (8, [.ref h1, .ref h2])), (h1, .inl (cL, 31, .inr (.inl s_now))), (h2, .inl (cL, 31, .inr (.inl s_later)))] H → va_D A [(h0, .inr (8, [.ref h1, .ref h2])), (h1, .inl (cL, 31, .inr (.inl s_now))), (h2, .inl (cL, 31, .inr (.inl s_later)))] → va_S A s.heap H locs → lv_has ls 10 [(0, .ref h0), (1, .int x1), (2, .int x2), (3, .int x3), (4, .int x4), (5, .int x5)] → pX8_pass_11 kx n11 x1 x2 x3 x4 x5 s_now s_later → W p l e ({ frames := 1, cells := 0, slots := 0, locals := 64 } : Room) s m args below meth c H locs 0 0 (MQ below (va_Qv (fun (u : (Nat → Int64) × (Nat → Int64)) => k u.1 u.2) (fun (u : (Nat → Int64) × (Nat → Int64)) t => va_P (dC, dI) vwCl [(h0, .inr (8, [.ref h1, .ref h2])), (h1, .inl (cL, 31, .inr (.inl u.1))), (h2, .inl (cL, 31, .inr (.inl u.2)))] t.heap ∧ va_D A [(h0, .inr (8, [.ref h1, .ref h2])), (h1, .inl (cL, 31, .inr (.inl u.1))), (h2, .inl (cL, 31, .inr (.inl u.2)))]) A) args s 0 0 A) (F0 m 11 ls []) := by
  obtain ⟨hx, hb, hml, hown, hts, hr, hlocks⟩ := id C
  intro n11
  induction n11 with
  | zero =>
    intro x1 x2 x3 x4 x5 s_now s_later H locs ls hP hD hS hl hf
    rw [pX8_pass_11] at hf
    exact hf.elim
  | succ n11 ih =>
    intro x1 x2 x3 x4 x5 s_now s_later H locs ls hP hD hS hl hf
    rw [pX8_pass_11] at hf
    refine lv_iload hx hb dX8_pass_11 (lv_at hl 5 rfl) ?_
    refine lv_bipush (v := (30 : Int32)) hx hb dX8_pass_13 (by decide) ?_
    refine lv_icmp_gt (tgt := 119) hx hb dX8_pass_15 (by decide) (fun c_2 => ?_) (fun c_2 => ?_)
    · replace hf := hf.1 c_2
      exact hkx s_now s_later H locs ls hP hD hS (lv_sub hl [0] rfl) hf
    · replace hf := hf.2 c_2
      refine lv_aload_n hx hb dX8_pass_18 rfl (lv_at hl 0 rfl) ?_
      refine va_get (D := (dC, dI)) (ci := 8) (v := .ref h1) (C := RX8) (T := TX8) (N := 2) hx hb hts iX8_pass_X8 hown hK hP 0 rfl rfl 0 (by decide) (hts _ mX8_pass_f9) (fun _ h9 => h9) rfl dX8_pass_19 ?_
      refine lv_iload hx hb dX8_pass_22 (lv_at hl 5 rfl) ?_
      obtain ⟨h_3, hf⟩ := hf
      refine va_lald hx hb hK hP 1 1 rfl rfl h_3 dX8_pass_24 ?_
      refine lv_lstore (lv' := [(6, .long (s_now x5.toNatClampNeg)), (0, .ref h0), (1, .int x1), (2, .int x2), (3, .int x3), (4, .int x4), (5, .int x5)]) hx hb dX8_pass_25 hl (by decide) rfl (fun ls hl => ?_)
      refine lv_iload hx hb dX8_pass_27 (lv_at hl 6 rfl) ?_
      refine lv_if_gt (tgt := 37) hx hb dX8_pass_29 (by decide) (fun c_4 => ?_) (fun c_4 => ?_)
      · replace hf := hf.1 c_4
        exact wX8_pass_37 C hK hN hA ih x1 x2 x3 x4 x5 (s_now x5.toNatClampNeg) s_now s_later H locs ls hP hD hS (lv_sub hl [1, 2, 3, 4, 5, 6, 0] rfl) hf
      · replace hf := hf.2 c_4
        refine lv_iload hx hb dX8_pass_32 (lv_at hl 5 rfl) ?_
        refine lv_if_ne (tgt := 44) hx hb dX8_pass_34 (by decide) (fun c_10 => ?_) (fun c_10 => ?_)
        · replace hf := hf.2 c_10
          refine lv_iload hx hb dX8_pass_44 (lv_at hl 6 rfl) ?_
          exact wX8_pass_46 C hK hN hA ih x1 x2 x3 x4 x5 (s_now x5.toNatClampNeg) x5 s_now s_later H locs ls hP hD hS (lv_sub hl [1, 2, 3, 4, 5, 6, 0] rfl) hf
        · replace hf := hf.1 c_10
          exact wX8_pass_37 C hK hN hA ih x1 x2 x3 x4 x5 (s_now x5.toNatClampNeg) s_now s_later H locs ls hP hD hS (lv_sub hl [1, 2, 3, 4, 5, 6, 0] rfl) hf
set_option maxHeartbeats 4000000 in
set_option maxRecDepth 100000 in
theorem metX8_pass {h0 h1 h2 : Nat} {s_now s_later : Nat → Int64} {a1 : Int32} {a2 : Int32} {a3 : Int32} {a4 : Int32} {sz : Nat} {k : (Nat → Int64) → (Nat → Int64) → Prop} (hf : pX8_pass s_now s_later a1 a2 a3 a4 k) : Met l yX8_pass wsX8_pass ({ frames := 1, cells := 0, slots := 0, locals := 64 } : Room) (va_Pc [.ref h0, .int a1, .int a2, .int a3, .int a4] (PR dC dI (TYS cI cL cB cZ cT cR) [(h0, .inr (8, [.ref h1, .ref h2])), (h1, .inl (cL, 31, .inr (.inl s_now))), (h2, .inl (cL, 31, .inr (.inl s_later)))] sz)) (va_Qv (fun (u : (Nat → Int64) × (Nat → Int64)) => k u.1 u.2) (fun (u : (Nat → Int64) × (Nat → Int64)) t => va_P (dC, dI) vwCl [(h0, .inr (8, [.ref h1, .ref h2])), (h1, .inl (cL, 31, .inr (.inl u.1))), (h2, .inl (cL, 31, .inr (.inl u.2)))] t.heap ∧ va_D (va_A [(h0, .inr (8, [.ref h1, .ref h2])), (h1, .inl (cL, 31, .inr (.inl s_now))), (h2, .inl (cL, 31, .inr (.inl s_later)))] sz) [(h0, .inr (8, [.ref h1, .ref h2])), (h1, .inl (cL, 31, .inr (.inl u.1))), (h2, .inl (cL, 31, .inr (.inl u.2)))]) (va_A [(h0, .inr (8, [.ref h1, .ref h2])), (h1, .inl (cL, 31, .inr (.inl s_now))), (h2, .inl (cL, 31, .inr (.inl s_later)))] sz)) 0 0 (va_A [(h0, .inr (8, [.ref h1, .ref h2])), (h1, .inl (cL, 31, .inr (.inl s_now))), (h2, .inl (cL, 31, .inr (.inl s_later)))] sz) := by
  refine Met.ofW (cc := cX8_pass) (maxL := 10) (ret := none) (by decide) rfl ?_
  intro p e s m args below meth c s₁ B hml hv
  obtain ⟨rfl, hsz, hP, hK, hN, hD0⟩ := hv
  have C : CX p s m _ meth c cX8_pass 10 wsX8_pass RX8 none := ⟨B.exec, B.bytes, hml, findClass_of_methodNamed B.named, atoms_spec (ws := wsX8_pass) B.pre, B.returns, B.notSynchronized⟩
  obtain ⟨hx, hb, -, hown, hts, hr, hlocks⟩ := id C
  subst hsz
  have hD := hD0.self (sz := s.heap.size)
  generalize hAe : va_A [(h0, .inr (8, [.ref h1, .ref h2])), (h1, .inl (cL, 31, .inr (.inl s_now))), (h2, .inl (cL, 31, .inr (.inl s_later)))] s.heap.size = A at hD ⊢
  have hA : ∀ q : Nat, s.heap.size ≤ q → A q := fun q h => by rw [← hAe]; exact Or.inr h
  have hS : va_S A s.heap s.heap [] := va_S.rf
  have hl := lv_entry ([.ref h0, .int a1, .int a2, .int a3, .int a4]) (n := 10) (Nat.le_of_ble_eq_true rfl)
  rw [lg_entry_eq]
  generalize (lg_sl ([.ref h0, .int a1, .int a2, .int a3, .int a4]) ++ List.replicate (10 - (lg_sl ([.ref h0, .int a1, .int a2, .int a3, .int a4])).length) Slot.unset).toArray = ls at hl ⊢
  have hl : lv_has ls 10 [(0, .ref h0), (1, .int a1), (2, .int a2), (3, .int a3), (4, .int a4)] := hl
  unfold pX8_pass at hf
  obtain ⟨H, hH⟩ : ∃ H, H = s.heap := ⟨_, rfl⟩
  obtain ⟨locs, hlo⟩ : ∃ L : List Loc, L = [] := ⟨_, rfl⟩
  have hS : va_S A s.heap H locs := by rw [hH, hlo]; exact hS
  rw [← hH] at hP
  have hG : W p l e ({ frames := 1, cells := 0, slots := 0, locals := 64 } : Room) s m [.ref h0, .int a1, .int a2, .int a3, .int a4].toArray below meth c H locs 0 0 (MQ below (va_Qv (fun (u : (Nat → Int64) × (Nat → Int64)) => k u.1 u.2) (fun (u : (Nat → Int64) × (Nat → Int64)) t => va_P (dC, dI) vwCl [(h0, .inr (8, [.ref h1, .ref h2])), (h1, .inl (cL, 31, .inr (.inl u.1))), (h2, .inl (cL, 31, .inr (.inl u.2)))] t.heap ∧ va_D A [(h0, .inr (8, [.ref h1, .ref h2])), (h1, .inl (cL, 31, .inr (.inl u.1))), (h2, .inl (cL, 31, .inr (.inl u.2)))]) A) [.ref h0, .int a1, .int a2, .int a3, .int a4].toArray s 0 0 A) (F0 m 0 ls []) := by
    clear hlo hH hD0
    refine lv_aload_n hx hb dX8_pass_0 rfl (lv_at hl 0 rfl) ?_
    refine va_get (D := (dC, dI)) (ci := 8) (v := .ref h2) (C := RX8) (T := TX8) (N := 2) hx hb hts iX8_pass_X8 hown hK hP 0 rfl rfl 1 (by decide) (hts _ mX8_pass_f15) (fun _ h9 => h9) rfl dX8_pass_1 ?_
    refine lv_lconst (v := (0 : Int64)) hx hb dX8_pass_4 (by decide) ?_
    have hPc := hP.sub (ws' := [(h2, .inl (cL, 31, .inr (.inl s_later)))]) [2] rfl
    have hDc := hD.sub (ws' := [(h2, .inl (cL, 31, .inr (.inl s_later)))]) [2] (by decide) rfl
    have hFc := va_free (wc := [(h2, .inl (cL, 31, .inr (.inl s_later)))]) hD hS hA [2] rfl
    refine va_callv (va_runS (As := [.ref h2, .long (0 : Int64)]) (rest := []) ⟨hx, hb, hml, hown, hts⟩ (metJ7_fill_d0a16 (sz := H.size) hf) (va_cwS 2 hts gX8_pass_J7_fill_d0a16 rfl rfl rfl kJ7_fill_d0a16 ⟨Nat.le_of_ble_eq_true rfl, Nat.le_of_ble_eq_true rfl⟩) ⟨PR.blind, fun U hU hW => ⟨rfl, PR.go hU hW hPc hDc hK hN⟩⟩ rfl rfl hl.1 rfl (lv_room (Nat.le_of_ble_eq_true rfl)) dX8_pass_5 ⟨Nat.zero_le _, Nat.zero_le _⟩) hS (fun q _ h => hFc q h) hFc (fun u t H1 locs ht hvm hf hB hz1 hk1 hS => ?_)
    obtain ⟨s_later_1, rfl⟩ : ∃ z, z = u := ⟨_, rfl⟩
    have hP1 : va_P (dC, dI) vwCl [(h2, .inl (cL, 31, .inr (.inl s_later_1)))] H1 := by rw [← ht]; exact hB.1
    have hD1 : va_D (va_A [(h2, .inl (cL, 31, .inr (.inl s_later)))] H.size) [(h2, .inl (cL, 31, .inr (.inl s_later_1)))] := hB.2
    obtain ⟨hP, hD⟩ := jn (wr := [(h0, .inr (8, [.ref h1, .ref h2])), (h1, .inl (cL, 31, .inr (.inl s_now)))]) (ws' := [(h0, .inr (8, [.ref h1, .ref h2])), (h1, .inl (cL, 31, .inr (.inl s_now))), (h2, .inl (cL, 31, .inr (.inl s_later_1)))]) hP hD [2] [0, 1] rfl rfl (by decide) (by decide) hk1 hFc hP1 hD1 [0, 1, 2] (by decide) rfl
    clear hP1 hD1 hB hk1 hz1 hvm ht hPc hDc hFc
    generalize H1 = H at hP hS ⊢
    try dsimp only at hf
    refine lv_iconst (v := (0 : Int32)) hx hb dX8_pass_8 (by decide) ?_
    refine lv_istore (lv' := [(5, .int (0 : Int32)), (0, .ref h0), (1, .int a1), (2, .int a2), (3, .int a3), (4, .int a4)]) hx hb dX8_pass_9 hl (by decide) rfl (fun ls hl => ?_)
    obtain ⟨n11, hf⟩ := hf
    refine wX8_pass_11 C hK hN hA (fun s_now_11 s_later_11 H locs ls hP hD hS hl hf => ?_) n11 a1 a2 a3 a4 (0 : Int32) s_now s_later_1 H locs ls hP hD hS (lv_sub hl [1, 2, 3, 4, 5, 0] rfl) hf
    refine lv_aload_n hx hb dX8_pass_119 rfl (lv_at hl 0 rfl) ?_
    refine va_get (D := (dC, dI)) (ci := 8) (v := .ref h2) (C := RX8) (T := TX8) (N := 2) hx hb hts iX8_pass_X8 hown hK hP 0 rfl rfl 1 (by decide) (hts _ mX8_pass_f15) (fun _ h9 => h9) rfl dX8_pass_120 ?_
    refine lv_iconst (v := (0 : Int32)) hx hb dX8_pass_123 (by decide) ?_
    refine lv_aload_n hx hb dX8_pass_124 rfl (lv_at hl 0 rfl) ?_
    refine va_get (D := (dC, dI)) (ci := 8) (v := .ref h1) (C := RX8) (T := TX8) (N := 2) hx hb hts iX8_pass_X8 hown hK hP 0 rfl rfl 0 (by decide) (hts _ mX8_pass_f9) (fun _ h9 => h9) rfl dX8_pass_125 ?_
    refine lv_iconst (v := (0 : Int32)) hx hb dX8_pass_128 (by decide) ?_
    refine lv_bipush (v := (31 : Int32)) hx hb dX8_pass_129 (by decide) ?_
    refine va_copyl hx hb (hml.trans hl.1.symm) hown (hts _ mX8_pass_c28) (hts _ mX8_pass_nac) (hts _ mX8_pass_sac) (hts _ mX8_pass_iSys) hK hP hD hS 2 1 1 1 rfl rfl rfl rfl rfl (by decide) (by decide) (by decide) (by decide) (by decide) (fun _ _ => rfl) (Nat.le_of_ble_eq_true rfl) (by decide) dX8_pass_131 (fun H locs hP hD hS => ?_)
    replace hP : va_P (dC, dI) vwCl [(h0, .inr (8, [.ref h1, .ref h2])), (h1, .inl (cL, 31, .inr (.inl (va_cpy s_later_11 s_now_11 (0 : Int32).toNatClampNeg (0 : Int32).toNatClampNeg (31 : Int32).toNatClampNeg)))), (h2, .inl (cL, 31, .inr (.inl s_later_11)))] H := hP
    replace hD : va_D A [(h0, .inr (8, [.ref h1, .ref h2])), (h1, .inl (cL, 31, .inr (.inl (va_cpy s_later_11 s_now_11 (0 : Int32).toNatClampNeg (0 : Int32).toNatClampNeg (31 : Int32).toNatClampNeg)))), (h2, .inl (cL, 31, .inr (.inl s_later_11)))] := hD
    exact W.vret hx hb hr (fun t ht hW => ⟨⟨((va_cpy s_later_11 s_now_11 (0 : Int32).toNatClampNeg (0 : Int32).toNatClampNeg (31 : Int32).toNatClampNeg), s_later_11), rfl, hf, by rw [ht]; exact hP, hD⟩, hS.F ht⟩) hS.2.2 dX8_pass_134
  rw [hH, hlo] at hG
  exact hG
set_option maxHeartbeats 4000000 in
set_option maxRecDepth 100000 in
theorem wX8_upTo_5 {p : Program} {e : Env} {s : State} {m : MethodId} {args : Array Value} {below : List Frame} {meth : Method} {c : Code} (C : CX p s m args meth c cX8_upTo 5 wsX8_upTo RX8 (some .long)) (hK : va_K (dC, dI) vwCl (TYS cI cL cB cZ cT cR) s) (hN : NW s) {h0 r_later h1 : Nat} {s_now : Nat → Int64} {k : Int64 → Prop} {kx : Int64 → Prop} (hP : va_P (dC, dI) vwCl [(h0, .inr (8, [.ref h1, .ref r_later])), (h1, .inl (cL, 31, .inr (.inl s_now)))] s.heap) (hkx : ∀ (x2 : Int64) (ls : Array Slot), lv_has ls 5 [(0, .ref h0), (2, .long x2)] → kx x2 → W p l e ({ frames := 0, cells := 0, slots := 0, locals := 0 } : Room) s m args below meth c s.heap [] 0 0 (MQ below (roQl k) args s 0 0 (fun _ => False)) (F0 m 34 ls [])) : ∀ (n5 : Nat), ∀ (x1 : Int32) (x2 : Int64) (x4 : Int32) (ls : Array Slot), lv_has ls 5 [(0, .ref h0), (1, .int x1), (2, .long x2), (4, .int x4)] → pX8_upTo_5 s_now kx n5 x1 x2 x4 → W p l e ({ frames := 0, cells := 0, slots := 0, locals := 0 } : Room) s m args below meth c s.heap [] 0 0 (MQ below (roQl k) args s 0 0 (fun _ => False)) (F0 m 5 ls []) := by
  obtain ⟨hx, hb, hml, hown, hts, hr, hlocks⟩ := id C
  intro n5
  induction n5 with
  | zero =>
    intro x1 x2 x4 ls hl hf
    rw [pX8_upTo_5] at hf
    exact hf.elim
  | succ n5 ih =>
    intro x1 x2 x4 ls hl hf
    rw [pX8_upTo_5] at hf
    refine lv_iload hx hb dX8_upTo_5 (lv_at hl 3 rfl) ?_
    refine lv_iload_n hx hb dX8_upTo_7 rfl (lv_at hl 1 rfl) ?_
    refine lv_icmp_gt (tgt := 34) hx hb dX8_upTo_8 (by decide) (fun c_1 => ?_) (fun c_1 => ?_)
    · replace hf := hf.1 c_1
      exact hkx x2 ls (lv_sub hl [0, 2] rfl) hf
    · replace hf := hf.2 c_1
      refine lv_iload hx hb dX8_upTo_11 (lv_at hl 3 rfl) ?_
      refine lv_bipush (v := (30 : Int32)) hx hb dX8_upTo_13 (by decide) ?_
      refine lv_icmp_gt (tgt := 34) hx hb dX8_upTo_15 (by decide) (fun c_2 => ?_) (fun c_2 => ?_)
      · replace hf := hf.1 c_2
        exact hkx x2 ls (lv_sub hl [0, 2] rfl) hf
      · replace hf := hf.2 c_2
        refine lv_lload_n hx hb dX8_upTo_18 rfl (lv_at hl 2 rfl) ?_
        refine lv_aload_n hx hb dX8_upTo_19 rfl (lv_at hl 0 rfl) ?_
        refine va_get (D := (dC, dI)) (ci := 8) (v := .ref h1) (C := RX8) (T := TX8) (N := 2) hx hb hts iX8_upTo_X8 hown hK hP 0 rfl rfl 0 (by decide) (hts _ mX8_upTo_f9) (fun _ h9 => h9) rfl dX8_upTo_20 ?_
        refine lv_iload hx hb dX8_upTo_23 (lv_at hl 3 rfl) ?_
        obtain ⟨h_3, hf⟩ := hf
        refine va_lald hx hb hK hP 1 1 rfl rfl h_3 dX8_upTo_25 ?_
        refine lv_ladd hx hb dX8_upTo_26 ?_
        refine lv_lstore_n (lv' := [(2, .long (x2 + (s_now x4.toNatClampNeg))), (0, .ref h0), (1, .int x1), (4, .int x4)]) hx hb dX8_upTo_27 rfl hl (by decide) rfl (fun ls hl => ?_)
        refine lv_iinc (v := (x4 + 1)) (lv' := [(4, .int (x4 + 1)), (2, .long (x2 + (s_now x4.toNatClampNeg))), (0, .ref h0), (1, .int x1)]) hx hb dX8_upTo_28 hl (k := 3) rfl (by rfl) (by decide) rfl (fun ls hl => ?_)
        refine lv_goto (tgt := 5) hx hb dX8_upTo_31 (by decide) ?_
        exact ih x1 (x2 + (s_now x4.toNatClampNeg)) (x4 + 1) ls (lv_sub hl [2, 3, 1, 0] rfl) hf
set_option maxHeartbeats 4000000 in
set_option maxRecDepth 100000 in
theorem metX8_upTo {h0 r_later h1 : Nat} {s_now : Nat → Int64} {a1 : Int32} {k : Int64 → Prop} (hf : pX8_upTo s_now a1 k) : Met l yX8_upTo wsX8_upTo ({ frames := 0, cells := 0, slots := 0, locals := 0 } : Room) (va_Pc [.ref h0, .int a1] (PW dC dI (TYS cI cL cB cZ cT cR) [(h0, .inr (8, [.ref h1, .ref r_later])), (h1, .inl (cL, 31, .inr (.inl s_now)))])) (roQl k) 0 0 (fun _ => False) := by
  refine Met.ofW (cc := cX8_upTo) (maxL := 5) (ret := (some .long)) (by decide) rfl ?_
  intro p e s m args below meth c s₁ B hml hv
  obtain ⟨rfl, hP, hK, hN⟩ := hv
  have C : CX p s m _ meth c cX8_upTo 5 wsX8_upTo RX8 (some .long) := ⟨B.exec, B.bytes, hml, findClass_of_methodNamed B.named, atoms_spec (ws := wsX8_upTo) B.pre, B.returns, B.notSynchronized⟩
  obtain ⟨hx, hb, -, hown, hts, hr, hlocks⟩ := id C
  have hl := lv_entry ([.ref h0, .int a1]) (n := 5) (Nat.le_of_ble_eq_true rfl)
  rw [lg_entry_eq]
  generalize (lg_sl ([.ref h0, .int a1]) ++ List.replicate (5 - (lg_sl ([.ref h0, .int a1])).length) Slot.unset).toArray = ls at hl ⊢
  have hl : lv_has ls 5 [(0, .ref h0), (1, .int a1)] := hl
  unfold pX8_upTo at hf
  refine lv_lconst (v := (0 : Int64)) hx hb dX8_upTo_0 (by decide) ?_
  refine lv_lstore_n (lv' := [(2, .long (0 : Int64)), (0, .ref h0), (1, .int a1)]) hx hb dX8_upTo_1 rfl hl (by decide) rfl (fun ls hl => ?_)
  refine lv_iconst (v := (0 : Int32)) hx hb dX8_upTo_2 (by decide) ?_
  refine lv_istore (lv' := [(4, .int (0 : Int32)), (2, .long (0 : Int64)), (0, .ref h0), (1, .int a1)]) hx hb dX8_upTo_3 hl (by decide) rfl (fun ls hl => ?_)
  obtain ⟨n5, hf⟩ := hf
  refine wX8_upTo_5 C hK hN hP (fun x2_4 ls hl hf => ?_) n5 a1 (0 : Int64) (0 : Int32) ls (lv_sub hl [2, 3, 1, 0] rfl) hf
  refine lv_lload_n hx hb dX8_upTo_34 rfl (lv_at hl 1 rfl) ?_
  exact W.lret (v := x2_4) hx hb hr (fun t ht hW => ⟨x2_4, rfl, hf, ht⟩) (fun q h => by cases h) dX8_upTo_35
set_option maxHeartbeats 4000000 in
set_option maxRecDepth 100000 in
theorem wX8_takeOutUpTo_9 {p : Program} {e : Env} {s : State} {m : MethodId} {args : Array Value} {below : List Frame} {meth : Method} {c : Code} (C : CX p s m args meth c cX8_takeOutUpTo 5 wsX8_takeOutUpTo RX8 (some .long)) (hK : va_K (dC, dI) vwCl (TYS cI cL cB cZ cT cR) s) (hN : NW s) {A : Nat → Prop} (hA : ∀ q : Nat, s.heap.size ≤ q → A q) {h0 r_later h1 : Nat} {k : Int64 → (Nat → Int64) → Prop} {kx : Int64 → (Nat → Int64) → Prop} (hkx : ∀ (x2 : Int64) (s_now : Nat → Int64) (H : Heap) (locs : List Loc) (ls : Array Slot), va_P (dC, dI) vwCl [(h0, .inr (8, [.ref h1, .ref r_later])), (h1, .inl (cL, 31, .inr (.inl s_now)))] H → va_D A [(h0, .inr (8, [.ref h1, .ref r_later])), (h1, .inl (cL, 31, .inr (.inl s_now)))] → va_S A s.heap H locs → lv_has ls 5 [(0, .ref h0), (2, .long x2)] → kx x2 s_now → W p l e ({ frames := 1, cells := 0, slots := 0, locals := 24 } : Room) s m args below meth c H locs 0 0 (MQ below (va_Ql (fun (r : Int64) (u : (Nat → Int64)) => k r u) (fun (u : (Nat → Int64)) t => va_P (dC, dI) vwCl [(h0, .inr (8, [.ref h1, .ref r_later])), (h1, .inl (cL, 31, .inr (.inl u)))] t.heap ∧ va_D A [(h0, .inr (8, [.ref h1, .ref r_later])), (h1, .inl (cL, 31, .inr (.inl u)))]) A) args s 0 0 A) (F0 m 36 ls [])) : ∀ (n9 : Nat), ∀ (x1 : Int32) (x2 : Int64) (x4 : Int32) (s_now : Nat → Int64) (H : Heap) (locs : List Loc) (ls : Array Slot), va_P (dC, dI) vwCl [(h0, .inr (8, [.ref h1, .ref r_later])), (h1, .inl (cL, 31, .inr (.inl s_now)))] H → va_D A [(h0, .inr (8, [.ref h1, .ref r_later])), (h1, .inl (cL, 31, .inr (.inl s_now)))] → va_S A s.heap H locs → lv_has ls 5 [(0, .ref h0), (1, .int x1), (2, .long x2), (4, .int x4)] → pX8_takeOutUpTo_9 kx n9 x1 x2 x4 s_now → W p l e ({ frames := 1, cells := 0, slots := 0, locals := 24 } : Room) s m args below meth c H locs 0 0 (MQ below (va_Ql (fun (r : Int64) (u : (Nat → Int64)) => k r u) (fun (u : (Nat → Int64)) t => va_P (dC, dI) vwCl [(h0, .inr (8, [.ref h1, .ref r_later])), (h1, .inl (cL, 31, .inr (.inl u)))] t.heap ∧ va_D A [(h0, .inr (8, [.ref h1, .ref r_later])), (h1, .inl (cL, 31, .inr (.inl u)))]) A) args s 0 0 A) (F0 m 9 ls []) := by
  obtain ⟨hx, hb, hml, hown, hts, hr, hlocks⟩ := id C
  intro n9
  induction n9 with
  | zero =>
    intro x1 x2 x4 s_now H locs ls hP hD hS hl hf
    rw [pX8_takeOutUpTo_9] at hf
    exact hf.elim
  | succ n9 ih =>
    intro x1 x2 x4 s_now H locs ls hP hD hS hl hf
    rw [pX8_takeOutUpTo_9] at hf
    refine lv_iload hx hb dX8_takeOutUpTo_9 (lv_at hl 3 rfl) ?_
    refine lv_iload_n hx hb dX8_takeOutUpTo_11 rfl (lv_at hl 1 rfl) ?_
    refine lv_icmp_gt (tgt := 36) hx hb dX8_takeOutUpTo_12 (by decide) (fun c_2 => ?_) (fun c_2 => ?_)
    · replace hf := hf.1 c_2
      exact hkx x2 s_now H locs ls hP hD hS (lv_sub hl [0, 2] rfl) hf
    · replace hf := hf.2 c_2
      refine lv_iload hx hb dX8_takeOutUpTo_15 (lv_at hl 3 rfl) ?_
      refine lv_bipush (v := (30 : Int32)) hx hb dX8_takeOutUpTo_17 (by decide) ?_
      refine lv_icmp_gt (tgt := 36) hx hb dX8_takeOutUpTo_19 (by decide) (fun c_3 => ?_) (fun c_3 => ?_)
      · replace hf := hf.1 c_3
        exact hkx x2 s_now H locs ls hP hD hS (lv_sub hl [0, 2] rfl) hf
      · replace hf := hf.2 c_3
        refine lv_aload_n hx hb dX8_takeOutUpTo_22 rfl (lv_at hl 0 rfl) ?_
        refine va_get (D := (dC, dI)) (ci := 8) (v := .ref h1) (C := RX8) (T := TX8) (N := 2) hx hb hts iX8_takeOutUpTo_X8 hown hK hP 0 rfl rfl 0 (by decide) (hts _ mX8_takeOutUpTo_f9) (fun _ h9 => h9) rfl dX8_takeOutUpTo_23 ?_
        refine lv_iload hx hb dX8_takeOutUpTo_26 (lv_at hl 3 rfl) ?_
        refine lv_lconst (v := (0 : Int64)) hx hb dX8_takeOutUpTo_28 (by decide) ?_
        obtain ⟨h_4, hf⟩ := hf
        refine va_last hx hb hK hP hD hS 1 1 rfl rfl h_4 dX8_takeOutUpTo_29 (fun H locs hP hD hS => ?_)
        replace hP : va_P (dC, dI) vwCl [(h0, .inr (8, [.ref h1, .ref r_later])), (h1, .inl (cL, 31, .inr (.inl (vp_updL s_now x4.toNatClampNeg (0 : Int64)))))] H := hP
        replace hD : va_D A [(h0, .inr (8, [.ref h1, .ref r_later])), (h1, .inl (cL, 31, .inr (.inl (vp_updL s_now x4.toNatClampNeg (0 : Int64)))))] := hD
        refine lv_iinc (v := (x4 + 1)) (lv' := [(4, .int (x4 + 1)), (0, .ref h0), (1, .int x1), (2, .long x2)]) hx hb dX8_takeOutUpTo_30 hl (k := 3) rfl (by rfl) (by decide) rfl (fun ls hl => ?_)
        refine lv_goto (tgt := 9) hx hb dX8_takeOutUpTo_33 (by decide) ?_
        exact ih x1 x2 (x4 + 1) (vp_updL s_now x4.toNatClampNeg (0 : Int64)) H locs ls hP hD hS (lv_sub hl [1, 2, 3, 0] rfl) hf
set_option maxHeartbeats 4000000 in
set_option maxRecDepth 100000 in
theorem metX8_takeOutUpTo {h0 r_later h1 : Nat} {s_now : Nat → Int64} {a1 : Int32} {sz : Nat} {k : Int64 → (Nat → Int64) → Prop} (hf : pX8_takeOutUpTo s_now a1 k) : Met l yX8_takeOutUpTo wsX8_takeOutUpTo ({ frames := 1, cells := 0, slots := 0, locals := 24 } : Room) (va_Pc [.ref h0, .int a1] (PR dC dI (TYS cI cL cB cZ cT cR) [(h0, .inr (8, [.ref h1, .ref r_later])), (h1, .inl (cL, 31, .inr (.inl s_now)))] sz)) (va_Ql (fun (r : Int64) (u : (Nat → Int64)) => k r u) (fun (u : (Nat → Int64)) t => va_P (dC, dI) vwCl [(h0, .inr (8, [.ref h1, .ref r_later])), (h1, .inl (cL, 31, .inr (.inl u)))] t.heap ∧ va_D (va_A [(h0, .inr (8, [.ref h1, .ref r_later])), (h1, .inl (cL, 31, .inr (.inl s_now)))] sz) [(h0, .inr (8, [.ref h1, .ref r_later])), (h1, .inl (cL, 31, .inr (.inl u)))]) (va_A [(h0, .inr (8, [.ref h1, .ref r_later])), (h1, .inl (cL, 31, .inr (.inl s_now)))] sz)) 0 0 (va_A [(h0, .inr (8, [.ref h1, .ref r_later])), (h1, .inl (cL, 31, .inr (.inl s_now)))] sz) := by
  refine Met.ofW (cc := cX8_takeOutUpTo) (maxL := 5) (ret := (some .long)) (by decide) rfl ?_
  intro p e s m args below meth c s₁ B hml hv
  obtain ⟨rfl, hsz, hP, hK, hN, hD0⟩ := hv
  have C : CX p s m _ meth c cX8_takeOutUpTo 5 wsX8_takeOutUpTo RX8 (some .long) := ⟨B.exec, B.bytes, hml, findClass_of_methodNamed B.named, atoms_spec (ws := wsX8_takeOutUpTo) B.pre, B.returns, B.notSynchronized⟩
  obtain ⟨hx, hb, -, hown, hts, hr, hlocks⟩ := id C
  subst hsz
  have hD := hD0.self (sz := s.heap.size)
  generalize hAe : va_A [(h0, .inr (8, [.ref h1, .ref r_later])), (h1, .inl (cL, 31, .inr (.inl s_now)))] s.heap.size = A at hD ⊢
  have hA : ∀ q : Nat, s.heap.size ≤ q → A q := fun q h => by rw [← hAe]; exact Or.inr h
  have hS : va_S A s.heap s.heap [] := va_S.rf
  have hl := lv_entry ([.ref h0, .int a1]) (n := 5) (Nat.le_of_ble_eq_true rfl)
  rw [lg_entry_eq]
  generalize (lg_sl ([.ref h0, .int a1]) ++ List.replicate (5 - (lg_sl ([.ref h0, .int a1])).length) Slot.unset).toArray = ls at hl ⊢
  have hl : lv_has ls 5 [(0, .ref h0), (1, .int a1)] := hl
  unfold pX8_takeOutUpTo at hf
  obtain ⟨H, hH⟩ : ∃ H, H = s.heap := ⟨_, rfl⟩
  obtain ⟨locs, hlo⟩ : ∃ L : List Loc, L = [] := ⟨_, rfl⟩
  have hS : va_S A s.heap H locs := by rw [hH, hlo]; exact hS
  rw [← hH] at hP
  have hG : W p l e ({ frames := 1, cells := 0, slots := 0, locals := 24 } : Room) s m [.ref h0, .int a1].toArray below meth c H locs 0 0 (MQ below (va_Ql (fun (r : Int64) (u : (Nat → Int64)) => k r u) (fun (u : (Nat → Int64)) t => va_P (dC, dI) vwCl [(h0, .inr (8, [.ref h1, .ref r_later])), (h1, .inl (cL, 31, .inr (.inl u)))] t.heap ∧ va_D A [(h0, .inr (8, [.ref h1, .ref r_later])), (h1, .inl (cL, 31, .inr (.inl u)))]) A) [.ref h0, .int a1].toArray s 0 0 A) (F0 m 0 ls []) := by
    clear hlo hH hD0
    refine lv_aload_n hx hb dX8_takeOutUpTo_0 rfl (lv_at hl 0 rfl) ?_
    refine lv_iload_n hx hb dX8_takeOutUpTo_1 rfl (lv_at hl 1 rfl) ?_
    have hPc := hP.sub (ws' := [(h0, .inr (8, [.ref h1, .ref r_later])), (h1, .inl (cL, 31, .inr (.inl s_now)))]) [0, 1] rfl
    refine ro_calll (va_runV (As := [.int a1]) (rest := []) ⟨hx, hb, hml, hown, hts⟩ (metX8_upTo hf) (cwV 1 hts gX8_takeOutUpTo_X8_upTo rfl rfl rfl ⟨rfl, kX8_upTo⟩ ⟨Nat.le_of_ble_eq_true rfl, Nat.le_of_ble_eq_true rfl⟩) ⟨PW.blind, va_recv hK hPc (ci := 8) (q0 := 0) rfl rfl, fun U hU hW => ⟨rfl, PW.go hU hW hPc hK hN⟩⟩ rfl rfl hl.1 rfl (lv_room (Nat.le_of_ble_eq_true rfl)) dX8_takeOutUpTo_2 ⟨Nat.zero_le _, Nat.zero_le _⟩) (fun r_1 hf => ?_)
    refine lv_lstore_n (lv' := [(2, .long r_1), (0, .ref h0), (1, .int a1)]) hx hb dX8_takeOutUpTo_5 rfl hl (by decide) rfl (fun ls hl => ?_)
    refine lv_iconst (v := (0 : Int32)) hx hb dX8_takeOutUpTo_6 (by decide) ?_
    refine lv_istore (lv' := [(4, .int (0 : Int32)), (2, .long r_1), (0, .ref h0), (1, .int a1)]) hx hb dX8_takeOutUpTo_7 hl (by decide) rfl (fun ls hl => ?_)
    obtain ⟨n9, hf⟩ := hf
    refine wX8_takeOutUpTo_9 C hK hN hA (fun x2_5 s_now_5 H locs ls hP hD hS hl hf => ?_) n9 a1 r_1 (0 : Int32) s_now H locs ls hP hD hS (lv_sub hl [2, 3, 1, 0] rfl) hf
    refine lv_lload_n hx hb dX8_takeOutUpTo_36 rfl (lv_at hl 1 rfl) ?_
    exact W.lret (v := x2_5) hx hb hr (fun t ht hW => ⟨⟨x2_5, (s_now_5), rfl, hf, by rw [ht]; exact hP, hD⟩, hS.F ht⟩) hS.2.2 dX8_takeOutUpTo_37
  rw [hH, hlo] at hG
  exact hG
end
