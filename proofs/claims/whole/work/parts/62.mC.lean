section
variable {l : Launch} {dC : Nat → ClassId} {dI : Nat → Nat → Nat} {cI cL cB cZ cT cR : ClassId} {nb : Nat} {adK adV : Nat → Nat}
set_option maxHeartbeats 4000000 in
set_option maxRecDepth 100000 in
theorem metX5_setHigh {h0 r_kinds r_passers r_beasts r_checks r_looks : Nat} {s_high s_low : Int32} {a1 : Int32} {sz : Nat} {k : Int32 → Int32 → Prop} (hf : pX5_setHigh s_high a1 k) : Met l yX5_setHigh wsX5_setHigh ({ frames := 2, cells := 0, slots := 0, locals := 42 } : Room) (va_Pc [.ref h0, .int a1] (PR dC dI (TYS cI cL cB cZ cT cR) [(h0, .inr (5, [.ref r_kinds, .ref r_passers, .ref r_beasts, .ref r_checks, .ref r_looks, .int s_high, .int s_low]))] sz)) (va_Qi (fun (r : Int32) (u : Int32) => k r u) (fun (u : Int32) t => va_P (dC, dI) vwCl [(h0, .inr (5, [.ref r_kinds, .ref r_passers, .ref r_beasts, .ref r_checks, .ref r_looks, .int u, .int s_low]))] t.heap ∧ va_D (va_A [(h0, .inr (5, [.ref r_kinds, .ref r_passers, .ref r_beasts, .ref r_checks, .ref r_looks, .int s_high, .int s_low]))] sz) [(h0, .inr (5, [.ref r_kinds, .ref r_passers, .ref r_beasts, .ref r_checks, .ref r_looks, .int u, .int s_low]))]) (va_A [(h0, .inr (5, [.ref r_kinds, .ref r_passers, .ref r_beasts, .ref r_checks, .ref r_looks, .int s_high, .int s_low]))] sz)) 0 0 (va_A [(h0, .inr (5, [.ref r_kinds, .ref r_passers, .ref r_beasts, .ref r_checks, .ref r_looks, .int s_high, .int s_low]))] sz) := by
  refine Met.ofW (cc := cX5_setHigh) (maxL := 3) (ret := (some .int)) (by decide) rfl ?_
  intro p e s m args below meth c s₁ B hml hv
  obtain ⟨rfl, hsz, hP, hK, hN, hD0⟩ := hv
  have C : CX p s m _ meth c cX5_setHigh 3 wsX5_setHigh RX5 (some .int) := ⟨B.exec, B.bytes, hml, findClass_of_methodNamed B.named, atoms_spec (ws := wsX5_setHigh) B.pre, B.returns, B.notSynchronized⟩
  obtain ⟨hx, hb, -, hown, hts, hr, hlocks⟩ := id C
  subst hsz
  have hD := hD0.self (sz := s.heap.size)
  generalize hAe : va_A [(h0, .inr (5, [.ref r_kinds, .ref r_passers, .ref r_beasts, .ref r_checks, .ref r_looks, .int s_high, .int s_low]))] s.heap.size = A at hD ⊢
  have hA : ∀ q : Nat, s.heap.size ≤ q → A q := fun q h => by rw [← hAe]; exact Or.inr h
  have hS : va_S A s.heap s.heap [] := va_S.rf
  have hl := lv_entry ([.ref h0, .int a1]) (n := 3) (Nat.le_of_ble_eq_true rfl)
  rw [lg_entry_eq]
  generalize (lg_sl ([.ref h0, .int a1]) ++ List.replicate (3 - (lg_sl ([.ref h0, .int a1])).length) Slot.unset).toArray = ls at hl ⊢
  have hl : lv_has ls 3 [(0, .ref h0), (1, .int a1)] := hl
  unfold pX5_setHigh at hf
  obtain ⟨H, hH⟩ : ∃ H, H = s.heap := ⟨_, rfl⟩
  obtain ⟨locs, hlo⟩ : ∃ L : List Loc, L = [] := ⟨_, rfl⟩
  have hS : va_S A s.heap H locs := by rw [hH, hlo]; exact hS
  rw [← hH] at hP
  have hG : W p l e ({ frames := 2, cells := 0, slots := 0, locals := 42 } : Room) s m [.ref h0, .int a1].toArray below meth c H locs 0 0 (MQ below (va_Qi (fun (r : Int32) (u : Int32) => k r u) (fun (u : Int32) t => va_P (dC, dI) vwCl [(h0, .inr (5, [.ref r_kinds, .ref r_passers, .ref r_beasts, .ref r_checks, .ref r_looks, .int u, .int s_low]))] t.heap ∧ va_D A [(h0, .inr (5, [.ref r_kinds, .ref r_passers, .ref r_beasts, .ref r_checks, .ref r_looks, .int u, .int s_low]))]) A) [.ref h0, .int a1].toArray s 0 0 A) (F0 m 0 ls []) := by
    clear hlo hH hD0
    refine lv_iload_n hx hb dX5_setHigh_0 rfl (lv_at hl 1 rfl) ?_
    have hPc := hP.sub (ws' := []) [] rfl
    refine ro_calli (va_runSN (As := [.int a1]) (rest := []) ⟨hx, hb, hml, hown, hts⟩ (metX11_isHigh hf) ⟨va_cnB 1 hts gX5_setHigh_X11_isHigh_n47 rfl rfl rfl (hN _ nwm_0) (hts _ mX5_setHigh_iX11) kX11_isHigh ⟨Nat.le_of_ble_eq_true rfl, Nat.le_of_ble_eq_true rfl⟩, hts _ mX5_setHigh_sX11_isHigh, trivial⟩ ⟨PW.blind, fun U hU hW => ⟨rfl, PW.go hU hW hPc hK hN⟩⟩ rfl rfl hl.1 rfl (lv_room (Nat.le_of_ble_eq_true rfl)) dX5_setHigh_1 ⟨Nat.zero_le _, Nat.zero_le _⟩) (fun r_1 hf => ?_)
    refine lv_if_ne (tgt := 10) hx hb dX5_setHigh_4 (by decide) (fun c_2 => ?_) (fun c_2 => ?_)
    · replace hf := hf.2 c_2
      refine lv_aload_n hx hb dX5_setHigh_10 rfl (lv_at hl 0 rfl) ?_
      refine va_get (D := (dC, dI)) (ci := 5) (v := .int s_high) (C := RX5) (T := TX5) (N := 7) hx hb hts iX5_setHigh_X5 hown hK hP 0 rfl rfl 5 (by decide) (hts _ mX5_setHigh_f29) (fun _ h9 => h9) rfl dX5_setHigh_11 ?_
      refine lv_istore_n (lv' := [(2, .int s_high), (0, .ref h0), (1, .int a1)]) hx hb dX5_setHigh_14 rfl hl (by decide) rfl (fun ls hl => ?_)
      refine lv_aload_n hx hb dX5_setHigh_15 rfl (lv_at hl 1 rfl) ?_
      refine lv_iload_n hx hb dX5_setHigh_16 rfl (lv_at hl 2 rfl) ?_
      refine va_put (D := (dC, dI)) (ci := 5) (v := .int a1) (ty := .int) (C := RX5) (T := TX5) (N := 7) hx hb hts iX5_setHigh_X5 tyX5 tyX5_ok nmX5 hown hK hP hD hS 0 rfl rfl 5 (by decide) (hts _ mX5_setHigh_f29) (fun _ h9 => h9) rfl (by decide +kernel) rfl rfl (Nat.le_of_ble_eq_true rfl) dX5_setHigh_17 (fun H locs hP hD hS => ?_)
      replace hP : va_P (dC, dI) vwCl [(h0, .inr (5, [.ref r_kinds, .ref r_passers, .ref r_beasts, .ref r_checks, .ref r_looks, .int a1, .int s_low]))] H := hP
      replace hD : va_D A [(h0, .inr (5, [.ref r_kinds, .ref r_passers, .ref r_beasts, .ref r_checks, .ref r_looks, .int a1, .int s_low]))] := hD
      refine lv_iload_n hx hb dX5_setHigh_20 rfl (lv_at hl 0 rfl) ?_
      exact W.iret (v := s_high) hx hb hr (fun t ht hW => ⟨⟨s_high, (a1), rfl, hf, by rw [ht]; exact hP, hD⟩, hS.F ht⟩) hS.2.2 dX5_setHigh_21
    · replace hf := hf.1 c_2
      refine lv_bipush (v := (-2 : Int32)) hx hb dX5_setHigh_7 (by decide) ?_
      exact W.iret (v := (-2 : Int32)) hx hb hr (fun t ht hW => ⟨⟨(-2 : Int32), (s_high), rfl, hf, by rw [ht]; exact hP, hD⟩, hS.F ht⟩) hS.2.2 dX5_setHigh_9
  rw [hH, hlo] at hG
  exact hG
set_option maxHeartbeats 4000000 in
set_option maxRecDepth 100000 in
theorem metX5_setLow {h0 r_kinds r_passers r_beasts r_checks r_looks : Nat} {s_high s_low : Int32} {a1 : Int32} {sz : Nat} {k : Int32 → Int32 → Prop} (hf : pX5_setLow s_low a1 k) : Met l yX5_setLow wsX5_setLow ({ frames := 2, cells := 0, slots := 0, locals := 42 } : Room) (va_Pc [.ref h0, .int a1] (PR dC dI (TYS cI cL cB cZ cT cR) [(h0, .inr (5, [.ref r_kinds, .ref r_passers, .ref r_beasts, .ref r_checks, .ref r_looks, .int s_high, .int s_low]))] sz)) (va_Qi (fun (r : Int32) (u : Int32) => k r u) (fun (u : Int32) t => va_P (dC, dI) vwCl [(h0, .inr (5, [.ref r_kinds, .ref r_passers, .ref r_beasts, .ref r_checks, .ref r_looks, .int s_high, .int u]))] t.heap ∧ va_D (va_A [(h0, .inr (5, [.ref r_kinds, .ref r_passers, .ref r_beasts, .ref r_checks, .ref r_looks, .int s_high, .int s_low]))] sz) [(h0, .inr (5, [.ref r_kinds, .ref r_passers, .ref r_beasts, .ref r_checks, .ref r_looks, .int s_high, .int u]))]) (va_A [(h0, .inr (5, [.ref r_kinds, .ref r_passers, .ref r_beasts, .ref r_checks, .ref r_looks, .int s_high, .int s_low]))] sz)) 0 0 (va_A [(h0, .inr (5, [.ref r_kinds, .ref r_passers, .ref r_beasts, .ref r_checks, .ref r_looks, .int s_high, .int s_low]))] sz) := by
  refine Met.ofW (cc := cX5_setLow) (maxL := 3) (ret := (some .int)) (by decide) rfl ?_
  intro p e s m args below meth c s₁ B hml hv
  obtain ⟨rfl, hsz, hP, hK, hN, hD0⟩ := hv
  have C : CX p s m _ meth c cX5_setLow 3 wsX5_setLow RX5 (some .int) := ⟨B.exec, B.bytes, hml, findClass_of_methodNamed B.named, atoms_spec (ws := wsX5_setLow) B.pre, B.returns, B.notSynchronized⟩
  obtain ⟨hx, hb, -, hown, hts, hr, hlocks⟩ := id C
  subst hsz
  have hD := hD0.self (sz := s.heap.size)
  generalize hAe : va_A [(h0, .inr (5, [.ref r_kinds, .ref r_passers, .ref r_beasts, .ref r_checks, .ref r_looks, .int s_high, .int s_low]))] s.heap.size = A at hD ⊢
  have hA : ∀ q : Nat, s.heap.size ≤ q → A q := fun q h => by rw [← hAe]; exact Or.inr h
  have hS : va_S A s.heap s.heap [] := va_S.rf
  have hl := lv_entry ([.ref h0, .int a1]) (n := 3) (Nat.le_of_ble_eq_true rfl)
  rw [lg_entry_eq]
  generalize (lg_sl ([.ref h0, .int a1]) ++ List.replicate (3 - (lg_sl ([.ref h0, .int a1])).length) Slot.unset).toArray = ls at hl ⊢
  have hl : lv_has ls 3 [(0, .ref h0), (1, .int a1)] := hl
  unfold pX5_setLow at hf
  obtain ⟨H, hH⟩ : ∃ H, H = s.heap := ⟨_, rfl⟩
  obtain ⟨locs, hlo⟩ : ∃ L : List Loc, L = [] := ⟨_, rfl⟩
  have hS : va_S A s.heap H locs := by rw [hH, hlo]; exact hS
  rw [← hH] at hP
  have hG : W p l e ({ frames := 2, cells := 0, slots := 0, locals := 42 } : Room) s m [.ref h0, .int a1].toArray below meth c H locs 0 0 (MQ below (va_Qi (fun (r : Int32) (u : Int32) => k r u) (fun (u : Int32) t => va_P (dC, dI) vwCl [(h0, .inr (5, [.ref r_kinds, .ref r_passers, .ref r_beasts, .ref r_checks, .ref r_looks, .int s_high, .int u]))] t.heap ∧ va_D A [(h0, .inr (5, [.ref r_kinds, .ref r_passers, .ref r_beasts, .ref r_checks, .ref r_looks, .int s_high, .int u]))]) A) [.ref h0, .int a1].toArray s 0 0 A) (F0 m 0 ls []) := by
    clear hlo hH hD0
    refine lv_iload_n hx hb dX5_setLow_0 rfl (lv_at hl 1 rfl) ?_
    have hPc := hP.sub (ws' := []) [] rfl
    refine ro_calli (va_runSN (As := [.int a1]) (rest := []) ⟨hx, hb, hml, hown, hts⟩ (metX11_isHigh hf) ⟨va_cnB 1 hts gX5_setLow_X11_isHigh_n47 rfl rfl rfl (hN _ nwm_0) (hts _ mX5_setLow_iX11) kX11_isHigh ⟨Nat.le_of_ble_eq_true rfl, Nat.le_of_ble_eq_true rfl⟩, hts _ mX5_setLow_sX11_isHigh, trivial⟩ ⟨PW.blind, fun U hU hW => ⟨rfl, PW.go hU hW hPc hK hN⟩⟩ rfl rfl hl.1 rfl (lv_room (Nat.le_of_ble_eq_true rfl)) dX5_setLow_1 ⟨Nat.zero_le _, Nat.zero_le _⟩) (fun r_1 hf => ?_)
    refine lv_if_ne (tgt := 10) hx hb dX5_setLow_4 (by decide) (fun c_2 => ?_) (fun c_2 => ?_)
    · replace hf := hf.2 c_2
      refine lv_aload_n hx hb dX5_setLow_10 rfl (lv_at hl 0 rfl) ?_
      refine va_get (D := (dC, dI)) (ci := 5) (v := .int s_low) (C := RX5) (T := TX5) (N := 7) hx hb hts iX5_setLow_X5 hown hK hP 0 rfl rfl 6 (by decide) (hts _ mX5_setLow_f33) (fun _ h9 => h9) rfl dX5_setLow_11 ?_
      refine lv_istore_n (lv' := [(2, .int s_low), (0, .ref h0), (1, .int a1)]) hx hb dX5_setLow_14 rfl hl (by decide) rfl (fun ls hl => ?_)
      refine lv_aload_n hx hb dX5_setLow_15 rfl (lv_at hl 1 rfl) ?_
      refine lv_iload_n hx hb dX5_setLow_16 rfl (lv_at hl 2 rfl) ?_
      refine va_put (D := (dC, dI)) (ci := 5) (v := .int a1) (ty := .int) (C := RX5) (T := TX5) (N := 7) hx hb hts iX5_setLow_X5 tyX5 tyX5_ok nmX5 hown hK hP hD hS 0 rfl rfl 6 (by decide) (hts _ mX5_setLow_f33) (fun _ h9 => h9) rfl (by decide +kernel) rfl rfl (Nat.le_of_ble_eq_true rfl) dX5_setLow_17 (fun H locs hP hD hS => ?_)
      replace hP : va_P (dC, dI) vwCl [(h0, .inr (5, [.ref r_kinds, .ref r_passers, .ref r_beasts, .ref r_checks, .ref r_looks, .int s_high, .int a1]))] H := hP
      replace hD : va_D A [(h0, .inr (5, [.ref r_kinds, .ref r_passers, .ref r_beasts, .ref r_checks, .ref r_looks, .int s_high, .int a1]))] := hD
      refine lv_iload_n hx hb dX5_setLow_20 rfl (lv_at hl 0 rfl) ?_
      exact W.iret (v := s_low) hx hb hr (fun t ht hW => ⟨⟨s_low, (a1), rfl, hf, by rw [ht]; exact hP, hD⟩, hS.F ht⟩) hS.2.2 dX5_setLow_21
    · replace hf := hf.1 c_2
      refine lv_bipush (v := (-2 : Int32)) hx hb dX5_setLow_7 (by decide) ?_
      exact W.iret (v := (-2 : Int32)) hx hb hr (fun t ht hW => ⟨⟨(-2 : Int32), (s_low), rfl, hf, by rw [ht]; exact hP, hD⟩, hS.F ht⟩) hS.2.2 dX5_setLow_9
  rw [hH, hlo] at hG
  exact hG
set_option maxHeartbeats 4000000 in
set_option maxRecDepth 100000 in
theorem wX5_addPasser_24 {p : Program} {e : Env} {s : State} {m : MethodId} {args : Array Value} {below : List Frame} {meth : Method} {c : Code} (C : CX p s m args meth c cX5_addPasser 7 wsX5_addPasser RX5 (some .int)) (hK : va_K (dC, dI) vwCl (TYS cI cL cB cZ cT cR) s) (hN : NW s) {A : Nat → Prop} (hA : ∀ q : Nat, s.heap.size ≤ q → A q) {h0 r_beasts r_checks r_looks h1 r_kinds_0 r_kinds_1 r_kinds_2 r_kinds_3 r_kinds_4 r_kinds_5 h2 h3 : Nat} {s_high s_low : Int32} {k : Int32 → Int32 → (Nat → Int32) → Prop} : ∀ (x1 : Int32) (x2 : Int32) (x3 : Int32) (x4 : Int32) (y0 : Int32) (s_passers_size : Int32) (s_passers_cells : Nat → Int32) (H : Heap) (locs : List Loc) (ls : Array Slot), va_P (dC, dI) vwCl [(h0, .inr (5, [.ref h1, .ref h2, .ref r_beasts, .ref r_checks, .ref r_looks, .int s_high, .int s_low])), (h1, .inl (cT, 6, .inr (.inr (.inr (.inr (kd r_kinds_0 r_kinds_1 r_kinds_2 r_kinds_3 r_kinds_4 r_kinds_5)))))), (h2, .inr (7, [.int (12 : Int32), .int (6 : Int32), .ref h3, .int s_passers_size])), (h3, .inl (cI, 72, .inl s_passers_cells))] H → va_D A [(h0, .inr (5, [.ref h1, .ref h2, .ref r_beasts, .ref r_checks, .ref r_looks, .int s_high, .int s_low])), (h1, .inl (cT, 6, .inr (.inr (.inr (.inr (kd r_kinds_0 r_kinds_1 r_kinds_2 r_kinds_3 r_kinds_4 r_kinds_5)))))), (h2, .inr (7, [.int (12 : Int32), .int (6 : Int32), .ref h3, .int s_passers_size])), (h3, .inl (cI, 72, .inl s_passers_cells))] → va_S A s.heap H locs → lv_has ls 7 [(0, .ref h0), (1, .int x1), (2, .int x2), (3, .int x3), (4, .int x4)] → pX5_addPasser_24 k x1 x2 x3 x4 y0 s_passers_size s_passers_cells → W p l e ({ frames := 2, cells := 0, slots := 0, locals := 44 } : Room) s m args below meth c H locs 0 0 (MQ below (va_Qi (fun (r : Int32) (u : Int32 × (Nat → Int32)) => k r u.1 u.2) (fun (u : Int32 × (Nat → Int32)) t => va_P (dC, dI) vwCl [(h0, .inr (5, [.ref h1, .ref h2, .ref r_beasts, .ref r_checks, .ref r_looks, .int s_high, .int s_low])), (h1, .inl (cT, 6, .inr (.inr (.inr (.inr (kd r_kinds_0 r_kinds_1 r_kinds_2 r_kinds_3 r_kinds_4 r_kinds_5)))))), (h2, .inr (7, [.int (12 : Int32), .int (6 : Int32), .ref h3, .int u.1])), (h3, .inl (cI, 72, .inl u.2))] t.heap ∧ va_D A [(h0, .inr (5, [.ref h1, .ref h2, .ref r_beasts, .ref r_checks, .ref r_looks, .int s_high, .int s_low])), (h1, .inl (cT, 6, .inr (.inr (.inr (.inr (kd r_kinds_0 r_kinds_1 r_kinds_2 r_kinds_3 r_kinds_4 r_kinds_5)))))), (h2, .inr (7, [.int (12 : Int32), .int (6 : Int32), .ref h3, .int u.1])), (h3, .inl (cI, 72, .inl u.2))]) A) args s 0 0 A) (F0 m 24 ls [.int y0]) := by
  obtain ⟨hx, hb, hml, hown, hts, hr, hlocks⟩ := id C
  intro x1 x2 x3 x4 y0 s_passers_size s_passers_cells H locs ls hP hD hS hl hf
  unfold pX5_addPasser_24 at hf
  refine lv_istore (lv' := [(5, .int y0), (0, .ref h0), (1, .int x1), (2, .int x2), (3, .int x3), (4, .int x4)]) hx hb dX5_addPasser_24 hl (by decide) rfl (fun ls hl => ?_)
  refine lv_iload hx hb dX5_addPasser_26 (lv_at hl 0 rfl) ?_
  refine lv_if_eq (tgt := 63) hx hb dX5_addPasser_28 (by decide) (fun c_3 => ?_) (fun c_3 => ?_)
  · replace hf := hf.1 c_3
    refine lv_bipush (v := (-2 : Int32)) hx hb dX5_addPasser_63 (by decide) ?_
    exact W.iret (v := (-2 : Int32)) hx hb hr (fun t ht hW => ⟨⟨(-2 : Int32), (s_passers_size, s_passers_cells), rfl, hf, by rw [ht]; exact hP, hD⟩, hS.F ht⟩) hS.2.2 dX5_addPasser_65
  · replace hf := hf.2 c_3
    refine lv_iload_n hx hb dX5_addPasser_31 rfl (lv_at hl 3 rfl) ?_
    refine lv_iconst (v := (0 : Int32)) hx hb dX5_addPasser_32 (by decide) ?_
    refine lv_aload_n hx hb dX5_addPasser_33 rfl (lv_at hl 1 rfl) ?_
    refine va_get (D := (dC, dI)) (ci := 5) (v := .ref h1) (C := RX5) (T := TX5) (N := 7) hx hb hts iX5_addPasser_X5 hown hK hP 0 rfl rfl 0 (by decide) (hts _ mX5_addPasser_f36) (fun _ h9 => h9) rfl dX5_addPasser_34 ?_
    refine va_alen (v := (6 : Int32)) hx hb hK hP 1 4 rfl rfl rfl dX5_addPasser_37 ?_
    refine lv_iconst (v := (1 : Int32)) hx hb dX5_addPasser_38 (by decide) ?_
    refine lv_isub hx hb dX5_addPasser_39 ?_
    have hPc := hP.sub (ws' := []) [] rfl
    refine ro_calli (va_runSN (As := [.int x2, .int (0 : Int32), .int ((6 : Int32) - (1 : Int32))]) (rest := []) ⟨hx, hb, hml, hown, hts⟩ (metX11_within hf) ⟨va_cnB 3 hts gX5_addPasser_X11_within_n58 rfl rfl rfl (hN _ nwm_2) (hts _ mX5_addPasser_iX11) kX11_within ⟨Nat.le_of_ble_eq_true rfl, Nat.le_of_ble_eq_true rfl⟩, hts _ mX5_addPasser_sX11_within, trivial⟩ ⟨PW.blind, fun U hU hW => ⟨rfl, PW.go hU hW hPc hK hN⟩⟩ rfl rfl hl.1 rfl (lv_room (Nat.le_of_ble_eq_true rfl)) dX5_addPasser_40 ⟨Nat.zero_le _, Nat.zero_le _⟩) (fun r_4 hf => ?_)
    refine lv_if_eq (tgt := 63) hx hb dX5_addPasser_43 (by decide) (fun c_5 => ?_) (fun c_5 => ?_)
    · replace hf := hf.1 c_5
      refine lv_bipush (v := (-2 : Int32)) hx hb dX5_addPasser_63 (by decide) ?_
      exact W.iret (v := (-2 : Int32)) hx hb hr (fun t ht hW => ⟨⟨(-2 : Int32), (s_passers_size, s_passers_cells), rfl, hf, by rw [ht]; exact hP, hD⟩, hS.F ht⟩) hS.2.2 dX5_addPasser_65
    · replace hf := hf.2 c_5
      refine lv_iload_n hx hb dX5_addPasser_46 rfl (lv_at hl 4 rfl) ?_
      refine lv_iconst (v := (0 : Int32)) hx hb dX5_addPasser_47 (by decide) ?_
      refine lv_iconst (v := (1 : Int32)) hx hb dX5_addPasser_48 (by decide) ?_
      have hPc := hP.sub (ws' := []) [] rfl
      refine ro_calli (va_runSN (As := [.int x3, .int (0 : Int32), .int (1 : Int32)]) (rest := []) ⟨hx, hb, hml, hown, hts⟩ (metX11_within hf) ⟨va_cnB 3 hts gX5_addPasser_X11_within_n58 rfl rfl rfl (hN _ nwm_2) (hts _ mX5_addPasser_iX11) kX11_within ⟨Nat.le_of_ble_eq_true rfl, Nat.le_of_ble_eq_true rfl⟩, hts _ mX5_addPasser_sX11_within, trivial⟩ ⟨PW.blind, fun U hU hW => ⟨rfl, PW.go hU hW hPc hK hN⟩⟩ rfl rfl hl.1 rfl (lv_room (Nat.le_of_ble_eq_true rfl)) dX5_addPasser_49 ⟨Nat.zero_le _, Nat.zero_le _⟩) (fun r_6 hf => ?_)
      refine lv_if_eq (tgt := 63) hx hb dX5_addPasser_52 (by decide) (fun c_7 => ?_) (fun c_7 => ?_)
      · replace hf := hf.1 c_7
        refine lv_bipush (v := (-2 : Int32)) hx hb dX5_addPasser_63 (by decide) ?_
        exact W.iret (v := (-2 : Int32)) hx hb hr (fun t ht hW => ⟨⟨(-2 : Int32), (s_passers_size, s_passers_cells), rfl, hf, by rw [ht]; exact hP, hD⟩, hS.F ht⟩) hS.2.2 dX5_addPasser_65
      · replace hf := hf.2 c_7
        refine lv_iload hx hb dX5_addPasser_55 (lv_at hl 5 rfl) ?_
        have hPc := hP.sub (ws' := []) [] rfl
        refine ro_calli (va_runSN (As := [.int x4]) (rest := []) ⟨hx, hb, hml, hown, hts⟩ (metX11_isHigh hf) ⟨va_cnB 1 hts gX5_addPasser_X11_isHigh_n47 rfl rfl rfl (hN _ nwm_0) (hts _ mX5_addPasser_iX11) kX11_isHigh ⟨Nat.le_of_ble_eq_true rfl, Nat.le_of_ble_eq_true rfl⟩, hts _ mX5_addPasser_sX11_isHigh, trivial⟩ ⟨PW.blind, fun U hU hW => ⟨rfl, PW.go hU hW hPc hK hN⟩⟩ rfl rfl hl.1 rfl (lv_room (Nat.le_of_ble_eq_true rfl)) dX5_addPasser_57 ⟨Nat.zero_le _, Nat.zero_le _⟩) (fun r_8 hf => ?_)
        refine lv_if_ne (tgt := 66) hx hb dX5_addPasser_60 (by decide) (fun c_9 => ?_) (fun c_9 => ?_)
        · replace hf := hf.2 c_9
          refine lv_aload_n hx hb dX5_addPasser_66 rfl (lv_at hl 1 rfl) ?_
          refine va_get (D := (dC, dI)) (ci := 5) (v := .ref h2) (C := RX5) (T := TX5) (N := 7) hx hb hts iX5_addPasser_X5 hown hK hP 0 rfl rfl 1 (by decide) (hts _ mX5_addPasser_f14) (fun _ h9 => h9) rfl dX5_addPasser_67 ?_
          have hPc := hP.sub (ws' := [(h2, .inr (7, [.int (12 : Int32), .int (6 : Int32), .ref h3, .int s_passers_size]))]) [2] rfl
          have hDc := hD.sub (ws' := [(h2, .inr (7, [.int (12 : Int32), .int (6 : Int32), .ref h3, .int s_passers_size]))]) [2] (by decide) rfl
          have hFc := va_free (wc := [(h2, .inr (7, [.int (12 : Int32), .int (6 : Int32), .ref h3, .int s_passers_size]))]) hD hS hA [2] rfl
          refine va_calli (va_runV (As := []) (rest := []) ⟨hx, hb, hml, hown, hts⟩ (metX7_open (sz := H.size) hf) (cwV 0 hts gX5_addPasser_X7_open rfl rfl rfl ⟨rfl, kX7_open⟩ ⟨Nat.le_of_ble_eq_true rfl, Nat.le_of_ble_eq_true rfl⟩) ⟨PR.blind, va_recv hK hPc (ci := 7) (q0 := 0) rfl rfl, fun U hU hW => ⟨rfl, PR.go hU hW hPc hDc hK hN⟩⟩ rfl rfl hl.1 rfl (lv_room (Nat.le_of_ble_eq_true rfl)) dX5_addPasser_70 ⟨Nat.zero_le _, Nat.zero_le _⟩) hS (fun q _ h => hFc q h) hFc (fun r_10 u t H1 locs ht hvm hf hB hz1 hk1 hS => ?_)
          obtain ⟨s_passers_size_10, rfl⟩ : ∃ z, z = u := ⟨_, rfl⟩
          have hP1 : va_P (dC, dI) vwCl [(h2, .inr (7, [.int (12 : Int32), .int (6 : Int32), .ref h3, .int s_passers_size_10]))] H1 := by rw [← ht]; exact hB.1
          have hD1 : va_D (va_A [(h2, .inr (7, [.int (12 : Int32), .int (6 : Int32), .ref h3, .int s_passers_size]))] H.size) [(h2, .inr (7, [.int (12 : Int32), .int (6 : Int32), .ref h3, .int s_passers_size_10]))] := hB.2
          obtain ⟨hP, hD⟩ := jn (wr := [(h0, .inr (5, [.ref h1, .ref h2, .ref r_beasts, .ref r_checks, .ref r_looks, .int s_high, .int s_low])), (h1, .inl (cT, 6, .inr (.inr (.inr (.inr (kd r_kinds_0 r_kinds_1 r_kinds_2 r_kinds_3 r_kinds_4 r_kinds_5)))))), (h3, .inl (cI, 72, .inl s_passers_cells))]) (ws' := [(h0, .inr (5, [.ref h1, .ref h2, .ref r_beasts, .ref r_checks, .ref r_looks, .int s_high, .int s_low])), (h1, .inl (cT, 6, .inr (.inr (.inr (.inr (kd r_kinds_0 r_kinds_1 r_kinds_2 r_kinds_3 r_kinds_4 r_kinds_5)))))), (h2, .inr (7, [.int (12 : Int32), .int (6 : Int32), .ref h3, .int s_passers_size_10])), (h3, .inl (cI, 72, .inl s_passers_cells))]) hP hD [2] [0, 1, 3] rfl rfl (by decide) (by decide) hk1 hFc hP1 hD1 [0, 1, 3, 2] (by decide) rfl
          clear hP1 hD1 hB hk1 hz1 hvm ht hPc hDc hFc
          generalize H1 = H at hP hS ⊢
          try dsimp only at hf
          refine lv_istore (lv' := [(6, .int r_10), (5, .int y0), (0, .ref h0), (1, .int x1), (2, .int x2), (3, .int x3), (4, .int x4)]) hx hb dX5_addPasser_73 hl (by decide) rfl (fun ls hl => ?_)
          refine lv_iload hx hb dX5_addPasser_75 (lv_at hl 0 rfl) ?_
          refine lv_bipush (v := (-4 : Int32)) hx hb dX5_addPasser_77 (by decide) ?_
          refine lv_icmp_eq (tgt := 149) hx hb dX5_addPasser_79 (by decide) (fun c_11 => ?_) (fun c_11 => ?_)
          · replace hf := hf.1 c_11
            refine lv_iload hx hb dX5_addPasser_149 (lv_at hl 0 rfl) ?_
            exact W.iret (v := r_10) hx hb hr (fun t ht hW => ⟨⟨r_10, (s_passers_size_10, s_passers_cells), rfl, hf, by rw [ht]; exact hP, hD⟩, hS.F ht⟩) hS.2.2 dX5_addPasser_151
          · replace hf := hf.2 c_11
            refine lv_aload_n hx hb dX5_addPasser_82 rfl (lv_at hl 2 rfl) ?_
            refine va_get (D := (dC, dI)) (ci := 5) (v := .ref h2) (C := RX5) (T := TX5) (N := 7) hx hb hts iX5_addPasser_X5 hown hK hP 0 rfl rfl 1 (by decide) (hts _ mX5_addPasser_f14) (fun _ h9 => h9) rfl dX5_addPasser_83 ?_
            refine lv_iload hx hb dX5_addPasser_86 (lv_at hl 0 rfl) ?_
            refine lv_iconst (v := (0 : Int32)) hx hb dX5_addPasser_88 (by decide) ?_
            refine lv_iload_n hx hb dX5_addPasser_89 rfl (lv_at hl 3 rfl) ?_
            have hPc := hP.sub (ws' := [(h2, .inr (7, [.int (12 : Int32), .int (6 : Int32), .ref h3, .int s_passers_size_10])), (h3, .inl (cI, 72, .inl s_passers_cells))]) [2, 3] rfl
            have hDc := hD.sub (ws' := [(h2, .inr (7, [.int (12 : Int32), .int (6 : Int32), .ref h3, .int s_passers_size_10])), (h3, .inl (cI, 72, .inl s_passers_cells))]) [2, 3] (by decide) rfl
            have hFc := va_free (wc := [(h2, .inr (7, [.int (12 : Int32), .int (6 : Int32), .ref h3, .int s_passers_size_10])), (h3, .inl (cI, 72, .inl s_passers_cells))]) hD hS hA [2, 3] rfl
            refine va_callv (va_runV (As := [.int r_10, .int (0 : Int32), .int x1]) (rest := []) ⟨hx, hb, hml, hown, hts⟩ (metX7_put (sz := H.size) hf) (cwV 3 hts gX5_addPasser_X7_put rfl rfl rfl ⟨rfl, kX7_put⟩ ⟨Nat.le_of_ble_eq_true rfl, Nat.le_of_ble_eq_true rfl⟩) ⟨PR.blind, va_recv hK hPc (ci := 7) (q0 := 0) rfl rfl, fun U hU hW => ⟨rfl, PR.go hU hW hPc hDc hK hN⟩⟩ rfl rfl hl.1 rfl (lv_room (Nat.le_of_ble_eq_true rfl)) dX5_addPasser_90 ⟨Nat.zero_le _, Nat.zero_le _⟩) hS (fun q _ h => hFc q h) hFc (fun u t H1 locs ht hvm hf hB hz1 hk1 hS => ?_)
            obtain ⟨s_passers_cells_12, rfl⟩ : ∃ z, z = u := ⟨_, rfl⟩
            have hP1 : va_P (dC, dI) vwCl [(h2, .inr (7, [.int (12 : Int32), .int (6 : Int32), .ref h3, .int s_passers_size_10])), (h3, .inl (cI, 72, .inl s_passers_cells_12))] H1 := by rw [← ht]; exact hB.1
            have hD1 : va_D (va_A [(h2, .inr (7, [.int (12 : Int32), .int (6 : Int32), .ref h3, .int s_passers_size_10])), (h3, .inl (cI, 72, .inl s_passers_cells))] H.size) [(h2, .inr (7, [.int (12 : Int32), .int (6 : Int32), .ref h3, .int s_passers_size_10])), (h3, .inl (cI, 72, .inl s_passers_cells_12))] := hB.2
            obtain ⟨hP, hD⟩ := jn (wr := [(h0, .inr (5, [.ref h1, .ref h2, .ref r_beasts, .ref r_checks, .ref r_looks, .int s_high, .int s_low])), (h1, .inl (cT, 6, .inr (.inr (.inr (.inr (kd r_kinds_0 r_kinds_1 r_kinds_2 r_kinds_3 r_kinds_4 r_kinds_5))))))]) (ws' := [(h0, .inr (5, [.ref h1, .ref h2, .ref r_beasts, .ref r_checks, .ref r_looks, .int s_high, .int s_low])), (h1, .inl (cT, 6, .inr (.inr (.inr (.inr (kd r_kinds_0 r_kinds_1 r_kinds_2 r_kinds_3 r_kinds_4 r_kinds_5)))))), (h2, .inr (7, [.int (12 : Int32), .int (6 : Int32), .ref h3, .int s_passers_size_10])), (h3, .inl (cI, 72, .inl s_passers_cells_12))]) hP hD [2, 3] [0, 1] rfl rfl (by decide) (by decide) hk1 hFc hP1 hD1 [0, 1, 2, 3] (by decide) rfl
            clear hP1 hD1 hB hk1 hz1 hvm ht hPc hDc hFc
            generalize H1 = H at hP hS ⊢
            try dsimp only at hf
            refine lv_aload_n hx hb dX5_addPasser_93 rfl (lv_at hl 2 rfl) ?_
            refine va_get (D := (dC, dI)) (ci := 5) (v := .ref h2) (C := RX5) (T := TX5) (N := 7) hx hb hts iX5_addPasser_X5 hown hK hP 0 rfl rfl 1 (by decide) (hts _ mX5_addPasser_f14) (fun _ h9 => h9) rfl dX5_addPasser_94 ?_
            refine lv_iload hx hb dX5_addPasser_97 (lv_at hl 0 rfl) ?_
            refine lv_iconst (v := (1 : Int32)) hx hb dX5_addPasser_99 (by decide) ?_
            refine lv_iload_n hx hb dX5_addPasser_100 rfl (lv_at hl 4 rfl) ?_
            have hPc := hP.sub (ws' := [(h2, .inr (7, [.int (12 : Int32), .int (6 : Int32), .ref h3, .int s_passers_size_10])), (h3, .inl (cI, 72, .inl s_passers_cells_12))]) [2, 3] rfl
            have hDc := hD.sub (ws' := [(h2, .inr (7, [.int (12 : Int32), .int (6 : Int32), .ref h3, .int s_passers_size_10])), (h3, .inl (cI, 72, .inl s_passers_cells_12))]) [2, 3] (by decide) rfl
            have hFc := va_free (wc := [(h2, .inr (7, [.int (12 : Int32), .int (6 : Int32), .ref h3, .int s_passers_size_10])), (h3, .inl (cI, 72, .inl s_passers_cells_12))]) hD hS hA [2, 3] rfl
            refine va_callv (va_runV (As := [.int r_10, .int (1 : Int32), .int x2]) (rest := []) ⟨hx, hb, hml, hown, hts⟩ (metX7_put (sz := H.size) hf) (cwV 3 hts gX5_addPasser_X7_put rfl rfl rfl ⟨rfl, kX7_put⟩ ⟨Nat.le_of_ble_eq_true rfl, Nat.le_of_ble_eq_true rfl⟩) ⟨PR.blind, va_recv hK hPc (ci := 7) (q0 := 0) rfl rfl, fun U hU hW => ⟨rfl, PR.go hU hW hPc hDc hK hN⟩⟩ rfl rfl hl.1 rfl (lv_room (Nat.le_of_ble_eq_true rfl)) dX5_addPasser_101 ⟨Nat.zero_le _, Nat.zero_le _⟩) hS (fun q _ h => hFc q h) hFc (fun u t H1 locs ht hvm hf hB hz1 hk1 hS => ?_)
            obtain ⟨s_passers_cells_13, rfl⟩ : ∃ z, z = u := ⟨_, rfl⟩
            have hP1 : va_P (dC, dI) vwCl [(h2, .inr (7, [.int (12 : Int32), .int (6 : Int32), .ref h3, .int s_passers_size_10])), (h3, .inl (cI, 72, .inl s_passers_cells_13))] H1 := by rw [← ht]; exact hB.1
            have hD1 : va_D (va_A [(h2, .inr (7, [.int (12 : Int32), .int (6 : Int32), .ref h3, .int s_passers_size_10])), (h3, .inl (cI, 72, .inl s_passers_cells_12))] H.size) [(h2, .inr (7, [.int (12 : Int32), .int (6 : Int32), .ref h3, .int s_passers_size_10])), (h3, .inl (cI, 72, .inl s_passers_cells_13))] := hB.2
            obtain ⟨hP, hD⟩ := jn (wr := [(h0, .inr (5, [.ref h1, .ref h2, .ref r_beasts, .ref r_checks, .ref r_looks, .int s_high, .int s_low])), (h1, .inl (cT, 6, .inr (.inr (.inr (.inr (kd r_kinds_0 r_kinds_1 r_kinds_2 r_kinds_3 r_kinds_4 r_kinds_5))))))]) (ws' := [(h0, .inr (5, [.ref h1, .ref h2, .ref r_beasts, .ref r_checks, .ref r_looks, .int s_high, .int s_low])), (h1, .inl (cT, 6, .inr (.inr (.inr (.inr (kd r_kinds_0 r_kinds_1 r_kinds_2 r_kinds_3 r_kinds_4 r_kinds_5)))))), (h2, .inr (7, [.int (12 : Int32), .int (6 : Int32), .ref h3, .int s_passers_size_10])), (h3, .inl (cI, 72, .inl s_passers_cells_13))]) hP hD [2, 3] [0, 1] rfl rfl (by decide) (by decide) hk1 hFc hP1 hD1 [0, 1, 2, 3] (by decide) rfl
            clear hP1 hD1 hB hk1 hz1 hvm ht hPc hDc hFc
            generalize H1 = H at hP hS ⊢
            try dsimp only at hf
            refine lv_aload_n hx hb dX5_addPasser_104 rfl (lv_at hl 2 rfl) ?_
            refine va_get (D := (dC, dI)) (ci := 5) (v := .ref h2) (C := RX5) (T := TX5) (N := 7) hx hb hts iX5_addPasser_X5 hown hK hP 0 rfl rfl 1 (by decide) (hts _ mX5_addPasser_f14) (fun _ h9 => h9) rfl dX5_addPasser_105 ?_
            refine lv_iload hx hb dX5_addPasser_108 (lv_at hl 0 rfl) ?_
            refine lv_iconst (v := (2 : Int32)) hx hb dX5_addPasser_110 (by decide) ?_
            refine lv_iload_n hx hb dX5_addPasser_111 rfl (lv_at hl 5 rfl) ?_
            have hPc := hP.sub (ws' := [(h2, .inr (7, [.int (12 : Int32), .int (6 : Int32), .ref h3, .int s_passers_size_10])), (h3, .inl (cI, 72, .inl s_passers_cells_13))]) [2, 3] rfl
            have hDc := hD.sub (ws' := [(h2, .inr (7, [.int (12 : Int32), .int (6 : Int32), .ref h3, .int s_passers_size_10])), (h3, .inl (cI, 72, .inl s_passers_cells_13))]) [2, 3] (by decide) rfl
            have hFc := va_free (wc := [(h2, .inr (7, [.int (12 : Int32), .int (6 : Int32), .ref h3, .int s_passers_size_10])), (h3, .inl (cI, 72, .inl s_passers_cells_13))]) hD hS hA [2, 3] rfl
            refine va_callv (va_runV (As := [.int r_10, .int (2 : Int32), .int x3]) (rest := []) ⟨hx, hb, hml, hown, hts⟩ (metX7_put (sz := H.size) hf) (cwV 3 hts gX5_addPasser_X7_put rfl rfl rfl ⟨rfl, kX7_put⟩ ⟨Nat.le_of_ble_eq_true rfl, Nat.le_of_ble_eq_true rfl⟩) ⟨PR.blind, va_recv hK hPc (ci := 7) (q0 := 0) rfl rfl, fun U hU hW => ⟨rfl, PR.go hU hW hPc hDc hK hN⟩⟩ rfl rfl hl.1 rfl (lv_room (Nat.le_of_ble_eq_true rfl)) dX5_addPasser_112 ⟨Nat.zero_le _, Nat.zero_le _⟩) hS (fun q _ h => hFc q h) hFc (fun u t H1 locs ht hvm hf hB hz1 hk1 hS => ?_)
            obtain ⟨s_passers_cells_14, rfl⟩ : ∃ z, z = u := ⟨_, rfl⟩
            have hP1 : va_P (dC, dI) vwCl [(h2, .inr (7, [.int (12 : Int32), .int (6 : Int32), .ref h3, .int s_passers_size_10])), (h3, .inl (cI, 72, .inl s_passers_cells_14))] H1 := by rw [← ht]; exact hB.1
            have hD1 : va_D (va_A [(h2, .inr (7, [.int (12 : Int32), .int (6 : Int32), .ref h3, .int s_passers_size_10])), (h3, .inl (cI, 72, .inl s_passers_cells_13))] H.size) [(h2, .inr (7, [.int (12 : Int32), .int (6 : Int32), .ref h3, .int s_passers_size_10])), (h3, .inl (cI, 72, .inl s_passers_cells_14))] := hB.2
            obtain ⟨hP, hD⟩ := jn (wr := [(h0, .inr (5, [.ref h1, .ref h2, .ref r_beasts, .ref r_checks, .ref r_looks, .int s_high, .int s_low])), (h1, .inl (cT, 6, .inr (.inr (.inr (.inr (kd r_kinds_0 r_kinds_1 r_kinds_2 r_kinds_3 r_kinds_4 r_kinds_5))))))]) (ws' := [(h0, .inr (5, [.ref h1, .ref h2, .ref r_beasts, .ref r_checks, .ref r_looks, .int s_high, .int s_low])), (h1, .inl (cT, 6, .inr (.inr (.inr (.inr (kd r_kinds_0 r_kinds_1 r_kinds_2 r_kinds_3 r_kinds_4 r_kinds_5)))))), (h2, .inr (7, [.int (12 : Int32), .int (6 : Int32), .ref h3, .int s_passers_size_10])), (h3, .inl (cI, 72, .inl s_passers_cells_14))]) hP hD [2, 3] [0, 1] rfl rfl (by decide) (by decide) hk1 hFc hP1 hD1 [0, 1, 2, 3] (by decide) rfl
            clear hP1 hD1 hB hk1 hz1 hvm ht hPc hDc hFc
            generalize H1 = H at hP hS ⊢
            try dsimp only at hf
            refine lv_aload_n hx hb dX5_addPasser_115 rfl (lv_at hl 2 rfl) ?_
            refine va_get (D := (dC, dI)) (ci := 5) (v := .ref h2) (C := RX5) (T := TX5) (N := 7) hx hb hts iX5_addPasser_X5 hown hK hP 0 rfl rfl 1 (by decide) (hts _ mX5_addPasser_f14) (fun _ h9 => h9) rfl dX5_addPasser_116 ?_
            refine lv_iload hx hb dX5_addPasser_119 (lv_at hl 0 rfl) ?_
            refine lv_iconst (v := (3 : Int32)) hx hb dX5_addPasser_121 (by decide) ?_
            refine lv_iload hx hb dX5_addPasser_122 (lv_at hl 6 rfl) ?_
            have hPc := hP.sub (ws' := [(h2, .inr (7, [.int (12 : Int32), .int (6 : Int32), .ref h3, .int s_passers_size_10])), (h3, .inl (cI, 72, .inl s_passers_cells_14))]) [2, 3] rfl
            have hDc := hD.sub (ws' := [(h2, .inr (7, [.int (12 : Int32), .int (6 : Int32), .ref h3, .int s_passers_size_10])), (h3, .inl (cI, 72, .inl s_passers_cells_14))]) [2, 3] (by decide) rfl
            have hFc := va_free (wc := [(h2, .inr (7, [.int (12 : Int32), .int (6 : Int32), .ref h3, .int s_passers_size_10])), (h3, .inl (cI, 72, .inl s_passers_cells_14))]) hD hS hA [2, 3] rfl
            refine va_callv (va_runV (As := [.int r_10, .int (3 : Int32), .int x4]) (rest := []) ⟨hx, hb, hml, hown, hts⟩ (metX7_put (sz := H.size) hf) (cwV 3 hts gX5_addPasser_X7_put rfl rfl rfl ⟨rfl, kX7_put⟩ ⟨Nat.le_of_ble_eq_true rfl, Nat.le_of_ble_eq_true rfl⟩) ⟨PR.blind, va_recv hK hPc (ci := 7) (q0 := 0) rfl rfl, fun U hU hW => ⟨rfl, PR.go hU hW hPc hDc hK hN⟩⟩ rfl rfl hl.1 rfl (lv_room (Nat.le_of_ble_eq_true rfl)) dX5_addPasser_124 ⟨Nat.zero_le _, Nat.zero_le _⟩) hS (fun q _ h => hFc q h) hFc (fun u t H1 locs ht hvm hf hB hz1 hk1 hS => ?_)
            obtain ⟨s_passers_cells_15, rfl⟩ : ∃ z, z = u := ⟨_, rfl⟩
            have hP1 : va_P (dC, dI) vwCl [(h2, .inr (7, [.int (12 : Int32), .int (6 : Int32), .ref h3, .int s_passers_size_10])), (h3, .inl (cI, 72, .inl s_passers_cells_15))] H1 := by rw [← ht]; exact hB.1
            have hD1 : va_D (va_A [(h2, .inr (7, [.int (12 : Int32), .int (6 : Int32), .ref h3, .int s_passers_size_10])), (h3, .inl (cI, 72, .inl s_passers_cells_14))] H.size) [(h2, .inr (7, [.int (12 : Int32), .int (6 : Int32), .ref h3, .int s_passers_size_10])), (h3, .inl (cI, 72, .inl s_passers_cells_15))] := hB.2
            obtain ⟨hP, hD⟩ := jn (wr := [(h0, .inr (5, [.ref h1, .ref h2, .ref r_beasts, .ref r_checks, .ref r_looks, .int s_high, .int s_low])), (h1, .inl (cT, 6, .inr (.inr (.inr (.inr (kd r_kinds_0 r_kinds_1 r_kinds_2 r_kinds_3 r_kinds_4 r_kinds_5))))))]) (ws' := [(h0, .inr (5, [.ref h1, .ref h2, .ref r_beasts, .ref r_checks, .ref r_looks, .int s_high, .int s_low])), (h1, .inl (cT, 6, .inr (.inr (.inr (.inr (kd r_kinds_0 r_kinds_1 r_kinds_2 r_kinds_3 r_kinds_4 r_kinds_5)))))), (h2, .inr (7, [.int (12 : Int32), .int (6 : Int32), .ref h3, .int s_passers_size_10])), (h3, .inl (cI, 72, .inl s_passers_cells_15))]) hP hD [2, 3] [0, 1] rfl rfl (by decide) (by decide) hk1 hFc hP1 hD1 [0, 1, 2, 3] (by decide) rfl
            clear hP1 hD1 hB hk1 hz1 hvm ht hPc hDc hFc
            generalize H1 = H at hP hS ⊢
            try dsimp only at hf
            refine lv_aload_n hx hb dX5_addPasser_127 rfl (lv_at hl 2 rfl) ?_
            refine va_get (D := (dC, dI)) (ci := 5) (v := .ref h2) (C := RX5) (T := TX5) (N := 7) hx hb hts iX5_addPasser_X5 hown hK hP 0 rfl rfl 1 (by decide) (hts _ mX5_addPasser_f14) (fun _ h9 => h9) rfl dX5_addPasser_128 ?_
            refine lv_iload hx hb dX5_addPasser_131 (lv_at hl 0 rfl) ?_
            refine lv_iconst (v := (4 : Int32)) hx hb dX5_addPasser_133 (by decide) ?_
            refine lv_iconst (v := (3 : Int32)) hx hb dX5_addPasser_134 (by decide) ?_
            have hPc := hP.sub (ws' := [(h2, .inr (7, [.int (12 : Int32), .int (6 : Int32), .ref h3, .int s_passers_size_10])), (h3, .inl (cI, 72, .inl s_passers_cells_15))]) [2, 3] rfl
            have hDc := hD.sub (ws' := [(h2, .inr (7, [.int (12 : Int32), .int (6 : Int32), .ref h3, .int s_passers_size_10])), (h3, .inl (cI, 72, .inl s_passers_cells_15))]) [2, 3] (by decide) rfl
            have hFc := va_free (wc := [(h2, .inr (7, [.int (12 : Int32), .int (6 : Int32), .ref h3, .int s_passers_size_10])), (h3, .inl (cI, 72, .inl s_passers_cells_15))]) hD hS hA [2, 3] rfl
            refine va_callv (va_runV (As := [.int r_10, .int (4 : Int32), .int (3 : Int32)]) (rest := []) ⟨hx, hb, hml, hown, hts⟩ (metX7_put (sz := H.size) hf) (cwV 3 hts gX5_addPasser_X7_put rfl rfl rfl ⟨rfl, kX7_put⟩ ⟨Nat.le_of_ble_eq_true rfl, Nat.le_of_ble_eq_true rfl⟩) ⟨PR.blind, va_recv hK hPc (ci := 7) (q0 := 0) rfl rfl, fun U hU hW => ⟨rfl, PR.go hU hW hPc hDc hK hN⟩⟩ rfl rfl hl.1 rfl (lv_room (Nat.le_of_ble_eq_true rfl)) dX5_addPasser_135 ⟨Nat.zero_le _, Nat.zero_le _⟩) hS (fun q _ h => hFc q h) hFc (fun u t H1 locs ht hvm hf hB hz1 hk1 hS => ?_)
            obtain ⟨s_passers_cells_16, rfl⟩ : ∃ z, z = u := ⟨_, rfl⟩
            have hP1 : va_P (dC, dI) vwCl [(h2, .inr (7, [.int (12 : Int32), .int (6 : Int32), .ref h3, .int s_passers_size_10])), (h3, .inl (cI, 72, .inl s_passers_cells_16))] H1 := by rw [← ht]; exact hB.1
            have hD1 : va_D (va_A [(h2, .inr (7, [.int (12 : Int32), .int (6 : Int32), .ref h3, .int s_passers_size_10])), (h3, .inl (cI, 72, .inl s_passers_cells_15))] H.size) [(h2, .inr (7, [.int (12 : Int32), .int (6 : Int32), .ref h3, .int s_passers_size_10])), (h3, .inl (cI, 72, .inl s_passers_cells_16))] := hB.2
            obtain ⟨hP, hD⟩ := jn (wr := [(h0, .inr (5, [.ref h1, .ref h2, .ref r_beasts, .ref r_checks, .ref r_looks, .int s_high, .int s_low])), (h1, .inl (cT, 6, .inr (.inr (.inr (.inr (kd r_kinds_0 r_kinds_1 r_kinds_2 r_kinds_3 r_kinds_4 r_kinds_5))))))]) (ws' := [(h0, .inr (5, [.ref h1, .ref h2, .ref r_beasts, .ref r_checks, .ref r_looks, .int s_high, .int s_low])), (h1, .inl (cT, 6, .inr (.inr (.inr (.inr (kd r_kinds_0 r_kinds_1 r_kinds_2 r_kinds_3 r_kinds_4 r_kinds_5)))))), (h2, .inr (7, [.int (12 : Int32), .int (6 : Int32), .ref h3, .int s_passers_size_10])), (h3, .inl (cI, 72, .inl s_passers_cells_16))]) hP hD [2, 3] [0, 1] rfl rfl (by decide) (by decide) hk1 hFc hP1 hD1 [0, 1, 2, 3] (by decide) rfl
            clear hP1 hD1 hB hk1 hz1 hvm ht hPc hDc hFc
            generalize H1 = H at hP hS ⊢
            try dsimp only at hf
            refine lv_aload_n hx hb dX5_addPasser_138 rfl (lv_at hl 2 rfl) ?_
            refine va_get (D := (dC, dI)) (ci := 5) (v := .ref h2) (C := RX5) (T := TX5) (N := 7) hx hb hts iX5_addPasser_X5 hown hK hP 0 rfl rfl 1 (by decide) (hts _ mX5_addPasser_f14) (fun _ h9 => h9) rfl dX5_addPasser_139 ?_
            refine lv_iload hx hb dX5_addPasser_142 (lv_at hl 0 rfl) ?_
            refine lv_iconst (v := (5 : Int32)) hx hb dX5_addPasser_144 (by decide) ?_
            refine lv_iconst (v := (3 : Int32)) hx hb dX5_addPasser_145 (by decide) ?_
            have hPc := hP.sub (ws' := [(h2, .inr (7, [.int (12 : Int32), .int (6 : Int32), .ref h3, .int s_passers_size_10])), (h3, .inl (cI, 72, .inl s_passers_cells_16))]) [2, 3] rfl
            have hDc := hD.sub (ws' := [(h2, .inr (7, [.int (12 : Int32), .int (6 : Int32), .ref h3, .int s_passers_size_10])), (h3, .inl (cI, 72, .inl s_passers_cells_16))]) [2, 3] (by decide) rfl
            have hFc := va_free (wc := [(h2, .inr (7, [.int (12 : Int32), .int (6 : Int32), .ref h3, .int s_passers_size_10])), (h3, .inl (cI, 72, .inl s_passers_cells_16))]) hD hS hA [2, 3] rfl
            refine va_callv (va_runV (As := [.int r_10, .int (5 : Int32), .int (3 : Int32)]) (rest := []) ⟨hx, hb, hml, hown, hts⟩ (metX7_put (sz := H.size) hf) (cwV 3 hts gX5_addPasser_X7_put rfl rfl rfl ⟨rfl, kX7_put⟩ ⟨Nat.le_of_ble_eq_true rfl, Nat.le_of_ble_eq_true rfl⟩) ⟨PR.blind, va_recv hK hPc (ci := 7) (q0 := 0) rfl rfl, fun U hU hW => ⟨rfl, PR.go hU hW hPc hDc hK hN⟩⟩ rfl rfl hl.1 rfl (lv_room (Nat.le_of_ble_eq_true rfl)) dX5_addPasser_146 ⟨Nat.zero_le _, Nat.zero_le _⟩) hS (fun q _ h => hFc q h) hFc (fun u t H1 locs ht hvm hf hB hz1 hk1 hS => ?_)
            obtain ⟨s_passers_cells_17, rfl⟩ : ∃ z, z = u := ⟨_, rfl⟩
            have hP1 : va_P (dC, dI) vwCl [(h2, .inr (7, [.int (12 : Int32), .int (6 : Int32), .ref h3, .int s_passers_size_10])), (h3, .inl (cI, 72, .inl s_passers_cells_17))] H1 := by rw [← ht]; exact hB.1
            have hD1 : va_D (va_A [(h2, .inr (7, [.int (12 : Int32), .int (6 : Int32), .ref h3, .int s_passers_size_10])), (h3, .inl (cI, 72, .inl s_passers_cells_16))] H.size) [(h2, .inr (7, [.int (12 : Int32), .int (6 : Int32), .ref h3, .int s_passers_size_10])), (h3, .inl (cI, 72, .inl s_passers_cells_17))] := hB.2
            obtain ⟨hP, hD⟩ := jn (wr := [(h0, .inr (5, [.ref h1, .ref h2, .ref r_beasts, .ref r_checks, .ref r_looks, .int s_high, .int s_low])), (h1, .inl (cT, 6, .inr (.inr (.inr (.inr (kd r_kinds_0 r_kinds_1 r_kinds_2 r_kinds_3 r_kinds_4 r_kinds_5))))))]) (ws' := [(h0, .inr (5, [.ref h1, .ref h2, .ref r_beasts, .ref r_checks, .ref r_looks, .int s_high, .int s_low])), (h1, .inl (cT, 6, .inr (.inr (.inr (.inr (kd r_kinds_0 r_kinds_1 r_kinds_2 r_kinds_3 r_kinds_4 r_kinds_5)))))), (h2, .inr (7, [.int (12 : Int32), .int (6 : Int32), .ref h3, .int s_passers_size_10])), (h3, .inl (cI, 72, .inl s_passers_cells_17))]) hP hD [2, 3] [0, 1] rfl rfl (by decide) (by decide) hk1 hFc hP1 hD1 [0, 1, 2, 3] (by decide) rfl
            clear hP1 hD1 hB hk1 hz1 hvm ht hPc hDc hFc
            generalize H1 = H at hP hS ⊢
            try dsimp only at hf
            refine lv_iload hx hb dX5_addPasser_149 (lv_at hl 0 rfl) ?_
            exact W.iret (v := r_10) hx hb hr (fun t ht hW => ⟨⟨r_10, (s_passers_size_10, s_passers_cells_17), rfl, hf, by rw [ht]; exact hP, hD⟩, hS.F ht⟩) hS.2.2 dX5_addPasser_151
        · replace hf := hf.1 c_9
          refine lv_bipush (v := (-2 : Int32)) hx hb dX5_addPasser_63 (by decide) ?_
          exact W.iret (v := (-2 : Int32)) hx hb hr (fun t ht hW => ⟨⟨(-2 : Int32), (s_passers_size, s_passers_cells), rfl, hf, by rw [ht]; exact hP, hD⟩, hS.F ht⟩) hS.2.2 dX5_addPasser_65
set_option maxHeartbeats 4000000 in
set_option maxRecDepth 100000 in
theorem wX5_addPasser_23 {p : Program} {e : Env} {s : State} {m : MethodId} {args : Array Value} {below : List Frame} {meth : Method} {c : Code} (C : CX p s m args meth c cX5_addPasser 7 wsX5_addPasser RX5 (some .int)) (hK : va_K (dC, dI) vwCl (TYS cI cL cB cZ cT cR) s) (hN : NW s) {A : Nat → Prop} (hA : ∀ q : Nat, s.heap.size ≤ q → A q) {h0 r_beasts r_checks r_looks h1 r_kinds_0 r_kinds_1 r_kinds_2 r_kinds_3 r_kinds_4 r_kinds_5 h2 h3 : Nat} {s_high s_low : Int32} {k : Int32 → Int32 → (Nat → Int32) → Prop} : ∀ (x1 : Int32) (x2 : Int32) (x3 : Int32) (x4 : Int32) (s_passers_size : Int32) (s_passers_cells : Nat → Int32) (H : Heap) (locs : List Loc) (ls : Array Slot), va_P (dC, dI) vwCl [(h0, .inr (5, [.ref h1, .ref h2, .ref r_beasts, .ref r_checks, .ref r_looks, .int s_high, .int s_low])), (h1, .inl (cT, 6, .inr (.inr (.inr (.inr (kd r_kinds_0 r_kinds_1 r_kinds_2 r_kinds_3 r_kinds_4 r_kinds_5)))))), (h2, .inr (7, [.int (12 : Int32), .int (6 : Int32), .ref h3, .int s_passers_size])), (h3, .inl (cI, 72, .inl s_passers_cells))] H → va_D A [(h0, .inr (5, [.ref h1, .ref h2, .ref r_beasts, .ref r_checks, .ref r_looks, .int s_high, .int s_low])), (h1, .inl (cT, 6, .inr (.inr (.inr (.inr (kd r_kinds_0 r_kinds_1 r_kinds_2 r_kinds_3 r_kinds_4 r_kinds_5)))))), (h2, .inr (7, [.int (12 : Int32), .int (6 : Int32), .ref h3, .int s_passers_size])), (h3, .inl (cI, 72, .inl s_passers_cells))] → va_S A s.heap H locs → lv_has ls 7 [(0, .ref h0), (1, .int x1), (2, .int x2), (3, .int x3), (4, .int x4)] → pX5_addPasser_23 k x1 x2 x3 x4 s_passers_size s_passers_cells → W p l e ({ frames := 2, cells := 0, slots := 0, locals := 44 } : Room) s m args below meth c H locs 0 0 (MQ below (va_Qi (fun (r : Int32) (u : Int32 × (Nat → Int32)) => k r u.1 u.2) (fun (u : Int32 × (Nat → Int32)) t => va_P (dC, dI) vwCl [(h0, .inr (5, [.ref h1, .ref h2, .ref r_beasts, .ref r_checks, .ref r_looks, .int s_high, .int s_low])), (h1, .inl (cT, 6, .inr (.inr (.inr (.inr (kd r_kinds_0 r_kinds_1 r_kinds_2 r_kinds_3 r_kinds_4 r_kinds_5)))))), (h2, .inr (7, [.int (12 : Int32), .int (6 : Int32), .ref h3, .int u.1])), (h3, .inl (cI, 72, .inl u.2))] t.heap ∧ va_D A [(h0, .inr (5, [.ref h1, .ref h2, .ref r_beasts, .ref r_checks, .ref r_looks, .int s_high, .int s_low])), (h1, .inl (cT, 6, .inr (.inr (.inr (.inr (kd r_kinds_0 r_kinds_1 r_kinds_2 r_kinds_3 r_kinds_4 r_kinds_5)))))), (h2, .inr (7, [.int (12 : Int32), .int (6 : Int32), .ref h3, .int u.1])), (h3, .inl (cI, 72, .inl u.2))]) A) args s 0 0 A) (F0 m 23 ls []) := by
  obtain ⟨hx, hb, hml, hown, hts, hr, hlocks⟩ := id C
  intro x1 x2 x3 x4 s_passers_size s_passers_cells H locs ls hP hD hS hl hf
  unfold pX5_addPasser_23 at hf
  refine lv_iconst (v := (0 : Int32)) hx hb dX5_addPasser_23 (by decide) ?_
  exact wX5_addPasser_24 C hK hN hA x1 x2 x3 x4 (0 : Int32) s_passers_size s_passers_cells H locs ls hP hD hS (lv_sub hl [0, 1, 2, 3, 4] rfl) hf
set_option maxHeartbeats 4000000 in
set_option maxRecDepth 100000 in
theorem metX5_addPasser {h0 r_beasts r_checks r_looks h1 r_kinds_0 r_kinds_1 r_kinds_2 r_kinds_3 r_kinds_4 r_kinds_5 h2 h3 : Nat} {s_high s_low s_passers_size : Int32} {s_passers_cells : Nat → Int32} {a1 : Int32} {a2 : Int32} {a3 : Int32} {a4 : Int32} {sz : Nat} {k : Int32 → Int32 → (Nat → Int32) → Prop} (hf : pX5_addPasser s_passers_size s_passers_cells a1 a2 a3 a4 k) : Met l yX5_addPasser wsX5_addPasser ({ frames := 2, cells := 0, slots := 0, locals := 44 } : Room) (va_Pc [.ref h0, .int a1, .int a2, .int a3, .int a4] (PR dC dI (TYS cI cL cB cZ cT cR) [(h0, .inr (5, [.ref h1, .ref h2, .ref r_beasts, .ref r_checks, .ref r_looks, .int s_high, .int s_low])), (h1, .inl (cT, 6, .inr (.inr (.inr (.inr (kd r_kinds_0 r_kinds_1 r_kinds_2 r_kinds_3 r_kinds_4 r_kinds_5)))))), (h2, .inr (7, [.int (12 : Int32), .int (6 : Int32), .ref h3, .int s_passers_size])), (h3, .inl (cI, 72, .inl s_passers_cells))] sz)) (va_Qi (fun (r : Int32) (u : Int32 × (Nat → Int32)) => k r u.1 u.2) (fun (u : Int32 × (Nat → Int32)) t => va_P (dC, dI) vwCl [(h0, .inr (5, [.ref h1, .ref h2, .ref r_beasts, .ref r_checks, .ref r_looks, .int s_high, .int s_low])), (h1, .inl (cT, 6, .inr (.inr (.inr (.inr (kd r_kinds_0 r_kinds_1 r_kinds_2 r_kinds_3 r_kinds_4 r_kinds_5)))))), (h2, .inr (7, [.int (12 : Int32), .int (6 : Int32), .ref h3, .int u.1])), (h3, .inl (cI, 72, .inl u.2))] t.heap ∧ va_D (va_A [(h0, .inr (5, [.ref h1, .ref h2, .ref r_beasts, .ref r_checks, .ref r_looks, .int s_high, .int s_low])), (h1, .inl (cT, 6, .inr (.inr (.inr (.inr (kd r_kinds_0 r_kinds_1 r_kinds_2 r_kinds_3 r_kinds_4 r_kinds_5)))))), (h2, .inr (7, [.int (12 : Int32), .int (6 : Int32), .ref h3, .int s_passers_size])), (h3, .inl (cI, 72, .inl s_passers_cells))] sz) [(h0, .inr (5, [.ref h1, .ref h2, .ref r_beasts, .ref r_checks, .ref r_looks, .int s_high, .int s_low])), (h1, .inl (cT, 6, .inr (.inr (.inr (.inr (kd r_kinds_0 r_kinds_1 r_kinds_2 r_kinds_3 r_kinds_4 r_kinds_5)))))), (h2, .inr (7, [.int (12 : Int32), .int (6 : Int32), .ref h3, .int u.1])), (h3, .inl (cI, 72, .inl u.2))]) (va_A [(h0, .inr (5, [.ref h1, .ref h2, .ref r_beasts, .ref r_checks, .ref r_looks, .int s_high, .int s_low])), (h1, .inl (cT, 6, .inr (.inr (.inr (.inr (kd r_kinds_0 r_kinds_1 r_kinds_2 r_kinds_3 r_kinds_4 r_kinds_5)))))), (h2, .inr (7, [.int (12 : Int32), .int (6 : Int32), .ref h3, .int s_passers_size])), (h3, .inl (cI, 72, .inl s_passers_cells))] sz)) 0 0 (va_A [(h0, .inr (5, [.ref h1, .ref h2, .ref r_beasts, .ref r_checks, .ref r_looks, .int s_high, .int s_low])), (h1, .inl (cT, 6, .inr (.inr (.inr (.inr (kd r_kinds_0 r_kinds_1 r_kinds_2 r_kinds_3 r_kinds_4 r_kinds_5)))))), (h2, .inr (7, [.int (12 : Int32), .int (6 : Int32), .ref h3, .int s_passers_size])), (h3, .inl (cI, 72, .inl s_passers_cells))] sz) := by
  refine Met.ofW (cc := cX5_addPasser) (maxL := 7) (ret := (some .int)) (by decide) rfl ?_
  intro p e s m args below meth c s₁ B hml hv
  obtain ⟨rfl, hsz, hP, hK, hN, hD0⟩ := hv
  have C : CX p s m _ meth c cX5_addPasser 7 wsX5_addPasser RX5 (some .int) := ⟨B.exec, B.bytes, hml, findClass_of_methodNamed B.named, atoms_spec (ws := wsX5_addPasser) B.pre, B.returns, B.notSynchronized⟩
  obtain ⟨hx, hb, -, hown, hts, hr, hlocks⟩ := id C
  subst hsz
  have hD := hD0.self (sz := s.heap.size)
  generalize hAe : va_A [(h0, .inr (5, [.ref h1, .ref h2, .ref r_beasts, .ref r_checks, .ref r_looks, .int s_high, .int s_low])), (h1, .inl (cT, 6, .inr (.inr (.inr (.inr (kd r_kinds_0 r_kinds_1 r_kinds_2 r_kinds_3 r_kinds_4 r_kinds_5)))))), (h2, .inr (7, [.int (12 : Int32), .int (6 : Int32), .ref h3, .int s_passers_size])), (h3, .inl (cI, 72, .inl s_passers_cells))] s.heap.size = A at hD ⊢
  have hA : ∀ q : Nat, s.heap.size ≤ q → A q := fun q h => by rw [← hAe]; exact Or.inr h
  have hS : va_S A s.heap s.heap [] := va_S.rf
  have hl := lv_entry ([.ref h0, .int a1, .int a2, .int a3, .int a4]) (n := 7) (Nat.le_of_ble_eq_true rfl)
  rw [lg_entry_eq]
  generalize (lg_sl ([.ref h0, .int a1, .int a2, .int a3, .int a4]) ++ List.replicate (7 - (lg_sl ([.ref h0, .int a1, .int a2, .int a3, .int a4])).length) Slot.unset).toArray = ls at hl ⊢
  have hl : lv_has ls 7 [(0, .ref h0), (1, .int a1), (2, .int a2), (3, .int a3), (4, .int a4)] := hl
  unfold pX5_addPasser at hf
  obtain ⟨H, hH⟩ : ∃ H, H = s.heap := ⟨_, rfl⟩
  obtain ⟨locs, hlo⟩ : ∃ L : List Loc, L = [] := ⟨_, rfl⟩
  have hS : va_S A s.heap H locs := by rw [hH, hlo]; exact hS
  rw [← hH] at hP
  have hG : W p l e ({ frames := 2, cells := 0, slots := 0, locals := 44 } : Room) s m [.ref h0, .int a1, .int a2, .int a3, .int a4].toArray below meth c H locs 0 0 (MQ below (va_Qi (fun (r : Int32) (u : Int32 × (Nat → Int32)) => k r u.1 u.2) (fun (u : Int32 × (Nat → Int32)) t => va_P (dC, dI) vwCl [(h0, .inr (5, [.ref h1, .ref h2, .ref r_beasts, .ref r_checks, .ref r_looks, .int s_high, .int s_low])), (h1, .inl (cT, 6, .inr (.inr (.inr (.inr (kd r_kinds_0 r_kinds_1 r_kinds_2 r_kinds_3 r_kinds_4 r_kinds_5)))))), (h2, .inr (7, [.int (12 : Int32), .int (6 : Int32), .ref h3, .int u.1])), (h3, .inl (cI, 72, .inl u.2))] t.heap ∧ va_D A [(h0, .inr (5, [.ref h1, .ref h2, .ref r_beasts, .ref r_checks, .ref r_looks, .int s_high, .int s_low])), (h1, .inl (cT, 6, .inr (.inr (.inr (.inr (kd r_kinds_0 r_kinds_1 r_kinds_2 r_kinds_3 r_kinds_4 r_kinds_5)))))), (h2, .inr (7, [.int (12 : Int32), .int (6 : Int32), .ref h3, .int u.1])), (h3, .inl (cI, 72, .inl u.2))]) A) [.ref h0, .int a1, .int a2, .int a3, .int a4].toArray s 0 0 A) (F0 m 0 ls []) := by
    clear hlo hH hD0
    refine lv_iload_n hx hb dX5_addPasser_0 rfl (lv_at hl 1 rfl) ?_
    have hPc := hP.sub (ws' := []) [] rfl
    refine ro_calli (va_runSN (As := [.int a1]) (rest := []) ⟨hx, hb, hml, hown, hts⟩ (metX11_isMinute hf) ⟨va_cnB 1 hts gX5_addPasser_X11_isMinute_n51 rfl rfl rfl (hN _ nwm_1) (hts _ mX5_addPasser_iX11) kX11_isMinute ⟨Nat.le_of_ble_eq_true rfl, Nat.le_of_ble_eq_true rfl⟩, hts _ mX5_addPasser_sX11_isMinute, trivial⟩ ⟨PW.blind, fun U hU hW => ⟨rfl, PW.go hU hW hPc hK hN⟩⟩ rfl rfl hl.1 rfl (lv_room (Nat.le_of_ble_eq_true rfl)) dX5_addPasser_1 ⟨Nat.zero_le _, Nat.zero_le _⟩) (fun r_1 hf => ?_)
    refine lv_if_eq (tgt := 23) hx hb dX5_addPasser_4 (by decide) (fun c_2 => ?_) (fun c_2 => ?_)
    · replace hf := hf.1 c_2
      exact wX5_addPasser_23 C hK hN hA a1 a2 a3 a4 s_passers_size s_passers_cells H locs ls hP hD hS (lv_sub hl [0, 1, 2, 3, 4] rfl) hf
    · replace hf := hf.2 c_2
      refine lv_iload_n hx hb dX5_addPasser_7 rfl (lv_at hl 1 rfl) ?_
      refine lv_aload_n hx hb dX5_addPasser_8 rfl (lv_at hl 0 rfl) ?_
      refine va_get (D := (dC, dI)) (ci := 5) (v := .ref h2) (C := RX5) (T := TX5) (N := 7) hx hb hts iX5_addPasser_X5 hown hK hP 0 rfl rfl 1 (by decide) (hts _ mX5_addPasser_f14) (fun _ h9 => h9) rfl dX5_addPasser_9 ?_
      refine lv_iconst (v := (0 : Int32)) hx hb dX5_addPasser_12 (by decide) ?_
      have hPc := hP.sub (ws' := [(h2, .inr (7, [.int (12 : Int32), .int (6 : Int32), .ref h3, .int s_passers_size])), (h3, .inl (cI, 72, .inl s_passers_cells))]) [2, 3] rfl
      refine ro_calli (va_runV (As := [.int (0 : Int32)]) (rest := [.int a1]) ⟨hx, hb, hml, hown, hts⟩ (metX7_lastAt hf) (cwV 1 hts gX5_addPasser_X7_lastAt rfl rfl rfl ⟨rfl, kX7_lastAt⟩ ⟨Nat.le_of_ble_eq_true rfl, Nat.le_of_ble_eq_true rfl⟩) ⟨PW.blind, va_recv hK hPc (ci := 7) (q0 := 0) rfl rfl, fun U hU hW => ⟨rfl, PW.go hU hW hPc hK hN⟩⟩ rfl rfl hl.1 rfl (lv_room (Nat.le_of_ble_eq_true rfl)) dX5_addPasser_13 ⟨Nat.zero_le _, Nat.zero_le _⟩) (fun r_18 hf => ?_)
      refine lv_icmp_lt (tgt := 23) hx hb dX5_addPasser_16 (by decide) (fun c_19 => ?_) (fun c_19 => ?_)
      · replace hf := hf.1 c_19
        exact wX5_addPasser_23 C hK hN hA a1 a2 a3 a4 s_passers_size s_passers_cells H locs ls hP hD hS (lv_sub hl [0, 1, 2, 3, 4] rfl) hf
      · replace hf := hf.2 c_19
        refine lv_iconst (v := (1 : Int32)) hx hb dX5_addPasser_19 (by decide) ?_
        refine lv_goto (tgt := 24) hx hb dX5_addPasser_20 (by decide) ?_
        exact wX5_addPasser_24 C hK hN hA a1 a2 a3 a4 (1 : Int32) s_passers_size s_passers_cells H locs ls hP hD hS (lv_sub hl [0, 1, 2, 3, 4] rfl) hf
  rw [hH, hlo] at hG
  exact hG
set_option maxHeartbeats 4000000 in
set_option maxRecDepth 100000 in
theorem metX5_addBeast {h0 r_kinds r_passers r_checks r_looks h1 h2 : Nat} {s_high s_low s_beasts_size : Int32} {s_beasts_cells : Nat → Int32} {a1 : Int32} {a2 : Int32} {sz : Nat} {k : Int32 → Int32 → (Nat → Int32) → Prop} (hf : pX5_addBeast s_beasts_size s_beasts_cells a1 a2 k) : Met l yX5_addBeast wsX5_addBeast ({ frames := 2, cells := 0, slots := 0, locals := 42 } : Room) (va_Pc [.ref h0, .int a1, .int a2] (PR dC dI (TYS cI cL cB cZ cT cR) [(h0, .inr (5, [.ref r_kinds, .ref r_passers, .ref h1, .ref r_checks, .ref r_looks, .int s_high, .int s_low])), (h1, .inr (7, [.int (4 : Int32), .int (2 : Int32), .ref h2, .int s_beasts_size])), (h2, .inl (cI, 8, .inl s_beasts_cells))] sz)) (va_Qi (fun (r : Int32) (u : Int32 × (Nat → Int32)) => k r u.1 u.2) (fun (u : Int32 × (Nat → Int32)) t => va_P (dC, dI) vwCl [(h0, .inr (5, [.ref r_kinds, .ref r_passers, .ref h1, .ref r_checks, .ref r_looks, .int s_high, .int s_low])), (h1, .inr (7, [.int (4 : Int32), .int (2 : Int32), .ref h2, .int u.1])), (h2, .inl (cI, 8, .inl u.2))] t.heap ∧ va_D (va_A [(h0, .inr (5, [.ref r_kinds, .ref r_passers, .ref h1, .ref r_checks, .ref r_looks, .int s_high, .int s_low])), (h1, .inr (7, [.int (4 : Int32), .int (2 : Int32), .ref h2, .int s_beasts_size])), (h2, .inl (cI, 8, .inl s_beasts_cells))] sz) [(h0, .inr (5, [.ref r_kinds, .ref r_passers, .ref h1, .ref r_checks, .ref r_looks, .int s_high, .int s_low])), (h1, .inr (7, [.int (4 : Int32), .int (2 : Int32), .ref h2, .int u.1])), (h2, .inl (cI, 8, .inl u.2))]) (va_A [(h0, .inr (5, [.ref r_kinds, .ref r_passers, .ref h1, .ref r_checks, .ref r_looks, .int s_high, .int s_low])), (h1, .inr (7, [.int (4 : Int32), .int (2 : Int32), .ref h2, .int s_beasts_size])), (h2, .inl (cI, 8, .inl s_beasts_cells))] sz)) 0 0 (va_A [(h0, .inr (5, [.ref r_kinds, .ref r_passers, .ref h1, .ref r_checks, .ref r_looks, .int s_high, .int s_low])), (h1, .inr (7, [.int (4 : Int32), .int (2 : Int32), .ref h2, .int s_beasts_size])), (h2, .inl (cI, 8, .inl s_beasts_cells))] sz) := by
  refine Met.ofW (cc := cX5_addBeast) (maxL := 4) (ret := (some .int)) (by decide) rfl ?_
  intro p e s m args below meth c s₁ B hml hv
  obtain ⟨rfl, hsz, hP, hK, hN, hD0⟩ := hv
  have C : CX p s m _ meth c cX5_addBeast 4 wsX5_addBeast RX5 (some .int) := ⟨B.exec, B.bytes, hml, findClass_of_methodNamed B.named, atoms_spec (ws := wsX5_addBeast) B.pre, B.returns, B.notSynchronized⟩
  obtain ⟨hx, hb, -, hown, hts, hr, hlocks⟩ := id C
  subst hsz
  have hD := hD0.self (sz := s.heap.size)
  generalize hAe : va_A [(h0, .inr (5, [.ref r_kinds, .ref r_passers, .ref h1, .ref r_checks, .ref r_looks, .int s_high, .int s_low])), (h1, .inr (7, [.int (4 : Int32), .int (2 : Int32), .ref h2, .int s_beasts_size])), (h2, .inl (cI, 8, .inl s_beasts_cells))] s.heap.size = A at hD ⊢
  have hA : ∀ q : Nat, s.heap.size ≤ q → A q := fun q h => by rw [← hAe]; exact Or.inr h
  have hS : va_S A s.heap s.heap [] := va_S.rf
  have hl := lv_entry ([.ref h0, .int a1, .int a2]) (n := 4) (Nat.le_of_ble_eq_true rfl)
  rw [lg_entry_eq]
  generalize (lg_sl ([.ref h0, .int a1, .int a2]) ++ List.replicate (4 - (lg_sl ([.ref h0, .int a1, .int a2])).length) Slot.unset).toArray = ls at hl ⊢
  have hl : lv_has ls 4 [(0, .ref h0), (1, .int a1), (2, .int a2)] := hl
  unfold pX5_addBeast at hf
  obtain ⟨H, hH⟩ : ∃ H, H = s.heap := ⟨_, rfl⟩
  obtain ⟨locs, hlo⟩ : ∃ L : List Loc, L = [] := ⟨_, rfl⟩
  have hS : va_S A s.heap H locs := by rw [hH, hlo]; exact hS
  rw [← hH] at hP
  have hG : W p l e ({ frames := 2, cells := 0, slots := 0, locals := 42 } : Room) s m [.ref h0, .int a1, .int a2].toArray below meth c H locs 0 0 (MQ below (va_Qi (fun (r : Int32) (u : Int32 × (Nat → Int32)) => k r u.1 u.2) (fun (u : Int32 × (Nat → Int32)) t => va_P (dC, dI) vwCl [(h0, .inr (5, [.ref r_kinds, .ref r_passers, .ref h1, .ref r_checks, .ref r_looks, .int s_high, .int s_low])), (h1, .inr (7, [.int (4 : Int32), .int (2 : Int32), .ref h2, .int u.1])), (h2, .inl (cI, 8, .inl u.2))] t.heap ∧ va_D A [(h0, .inr (5, [.ref r_kinds, .ref r_passers, .ref h1, .ref r_checks, .ref r_looks, .int s_high, .int s_low])), (h1, .inr (7, [.int (4 : Int32), .int (2 : Int32), .ref h2, .int u.1])), (h2, .inl (cI, 8, .inl u.2))]) A) [.ref h0, .int a1, .int a2].toArray s 0 0 A) (F0 m 0 ls []) := by
    clear hlo hH hD0
    refine lv_iload_n hx hb dX5_addBeast_0 rfl (lv_at hl 1 rfl) ?_
    have hPc := hP.sub (ws' := []) [] rfl
    refine ro_calli (va_runSN (As := [.int a1]) (rest := []) ⟨hx, hb, hml, hown, hts⟩ (metX11_isMinute hf) ⟨va_cnB 1 hts gX5_addBeast_X11_isMinute_n51 rfl rfl rfl (hN _ nwm_1) (hts _ mX5_addBeast_iX11) kX11_isMinute ⟨Nat.le_of_ble_eq_true rfl, Nat.le_of_ble_eq_true rfl⟩, hts _ mX5_addBeast_sX11_isMinute, trivial⟩ ⟨PW.blind, fun U hU hW => ⟨rfl, PW.go hU hW hPc hK hN⟩⟩ rfl rfl hl.1 rfl (lv_room (Nat.le_of_ble_eq_true rfl)) dX5_addBeast_1 ⟨Nat.zero_le _, Nat.zero_le _⟩) (fun r_1 hf => ?_)
    refine lv_if_eq (tgt := 14) hx hb dX5_addBeast_4 (by decide) (fun c_2 => ?_) (fun c_2 => ?_)
    · replace hf := hf.1 c_2
      refine lv_bipush (v := (-2 : Int32)) hx hb dX5_addBeast_14 (by decide) ?_
      exact W.iret (v := (-2 : Int32)) hx hb hr (fun t ht hW => ⟨⟨(-2 : Int32), (s_beasts_size, s_beasts_cells), rfl, hf, by rw [ht]; exact hP, hD⟩, hS.F ht⟩) hS.2.2 dX5_addBeast_16
    · replace hf := hf.2 c_2
      refine lv_iload_n hx hb dX5_addBeast_7 rfl (lv_at hl 2 rfl) ?_
      have hPc := hP.sub (ws' := []) [] rfl
      refine ro_calli (va_runSN (As := [.int a2]) (rest := []) ⟨hx, hb, hml, hown, hts⟩ (metX11_isHigh hf) ⟨va_cnB 1 hts gX5_addBeast_X11_isHigh_n47 rfl rfl rfl (hN _ nwm_0) (hts _ mX5_addBeast_iX11) kX11_isHigh ⟨Nat.le_of_ble_eq_true rfl, Nat.le_of_ble_eq_true rfl⟩, hts _ mX5_addBeast_sX11_isHigh, trivial⟩ ⟨PW.blind, fun U hU hW => ⟨rfl, PW.go hU hW hPc hK hN⟩⟩ rfl rfl hl.1 rfl (lv_room (Nat.le_of_ble_eq_true rfl)) dX5_addBeast_8 ⟨Nat.zero_le _, Nat.zero_le _⟩) (fun r_3 hf => ?_)
      refine lv_if_ne (tgt := 17) hx hb dX5_addBeast_11 (by decide) (fun c_4 => ?_) (fun c_4 => ?_)
      · replace hf := hf.2 c_4
        refine lv_aload_n hx hb dX5_addBeast_17 rfl (lv_at hl 0 rfl) ?_
        refine va_get (D := (dC, dI)) (ci := 5) (v := .ref h1) (C := RX5) (T := TX5) (N := 7) hx hb hts iX5_addBeast_X5 hown hK hP 0 rfl rfl 2 (by decide) (hts _ mX5_addBeast_f20) (fun _ h9 => h9) rfl dX5_addBeast_18 ?_
        have hPc := hP.sub (ws' := [(h1, .inr (7, [.int (4 : Int32), .int (2 : Int32), .ref h2, .int s_beasts_size]))]) [1] rfl
        have hDc := hD.sub (ws' := [(h1, .inr (7, [.int (4 : Int32), .int (2 : Int32), .ref h2, .int s_beasts_size]))]) [1] (by decide) rfl
        have hFc := va_free (wc := [(h1, .inr (7, [.int (4 : Int32), .int (2 : Int32), .ref h2, .int s_beasts_size]))]) hD hS hA [1] rfl
        refine va_calli (va_runV (As := []) (rest := []) ⟨hx, hb, hml, hown, hts⟩ (metX7_open (sz := H.size) hf) (cwV 0 hts gX5_addBeast_X7_open rfl rfl rfl ⟨rfl, kX7_open⟩ ⟨Nat.le_of_ble_eq_true rfl, Nat.le_of_ble_eq_true rfl⟩) ⟨PR.blind, va_recv hK hPc (ci := 7) (q0 := 0) rfl rfl, fun U hU hW => ⟨rfl, PR.go hU hW hPc hDc hK hN⟩⟩ rfl rfl hl.1 rfl (lv_room (Nat.le_of_ble_eq_true rfl)) dX5_addBeast_21 ⟨Nat.zero_le _, Nat.zero_le _⟩) hS (fun q _ h => hFc q h) hFc (fun r_5 u t H1 locs ht hvm hf hB hz1 hk1 hS => ?_)
        obtain ⟨s_beasts_size_5, rfl⟩ : ∃ z, z = u := ⟨_, rfl⟩
        have hP1 : va_P (dC, dI) vwCl [(h1, .inr (7, [.int (4 : Int32), .int (2 : Int32), .ref h2, .int s_beasts_size_5]))] H1 := by rw [← ht]; exact hB.1
        have hD1 : va_D (va_A [(h1, .inr (7, [.int (4 : Int32), .int (2 : Int32), .ref h2, .int s_beasts_size]))] H.size) [(h1, .inr (7, [.int (4 : Int32), .int (2 : Int32), .ref h2, .int s_beasts_size_5]))] := hB.2
        obtain ⟨hP, hD⟩ := jn (wr := [(h0, .inr (5, [.ref r_kinds, .ref r_passers, .ref h1, .ref r_checks, .ref r_looks, .int s_high, .int s_low])), (h2, .inl (cI, 8, .inl s_beasts_cells))]) (ws' := [(h0, .inr (5, [.ref r_kinds, .ref r_passers, .ref h1, .ref r_checks, .ref r_looks, .int s_high, .int s_low])), (h1, .inr (7, [.int (4 : Int32), .int (2 : Int32), .ref h2, .int s_beasts_size_5])), (h2, .inl (cI, 8, .inl s_beasts_cells))]) hP hD [1] [0, 2] rfl rfl (by decide) (by decide) hk1 hFc hP1 hD1 [0, 2, 1] (by decide) rfl
        clear hP1 hD1 hB hk1 hz1 hvm ht hPc hDc hFc
        generalize H1 = H at hP hS ⊢
        try dsimp only at hf
        refine lv_istore_n (lv' := [(3, .int r_5), (0, .ref h0), (1, .int a1), (2, .int a2)]) hx hb dX5_addBeast_24 rfl hl (by decide) rfl (fun ls hl => ?_)
        refine lv_iload_n hx hb dX5_addBeast_25 rfl (lv_at hl 0 rfl) ?_
        refine lv_bipush (v := (-4 : Int32)) hx hb dX5_addBeast_26 (by decide) ?_
        refine lv_icmp_eq (tgt := 51) hx hb dX5_addBeast_28 (by decide) (fun c_6 => ?_) (fun c_6 => ?_)
        · replace hf := hf.1 c_6
          refine lv_iload_n hx hb dX5_addBeast_51 rfl (lv_at hl 0 rfl) ?_
          exact W.iret (v := r_5) hx hb hr (fun t ht hW => ⟨⟨r_5, (s_beasts_size_5, s_beasts_cells), rfl, hf, by rw [ht]; exact hP, hD⟩, hS.F ht⟩) hS.2.2 dX5_addBeast_52
        · replace hf := hf.2 c_6
          refine lv_aload_n hx hb dX5_addBeast_31 rfl (lv_at hl 1 rfl) ?_
          refine va_get (D := (dC, dI)) (ci := 5) (v := .ref h1) (C := RX5) (T := TX5) (N := 7) hx hb hts iX5_addBeast_X5 hown hK hP 0 rfl rfl 2 (by decide) (hts _ mX5_addBeast_f20) (fun _ h9 => h9) rfl dX5_addBeast_32 ?_
          refine lv_iload_n hx hb dX5_addBeast_35 rfl (lv_at hl 0 rfl) ?_
          refine lv_iconst (v := (0 : Int32)) hx hb dX5_addBeast_36 (by decide) ?_
          refine lv_iload_n hx hb dX5_addBeast_37 rfl (lv_at hl 2 rfl) ?_
          have hPc := hP.sub (ws' := [(h1, .inr (7, [.int (4 : Int32), .int (2 : Int32), .ref h2, .int s_beasts_size_5])), (h2, .inl (cI, 8, .inl s_beasts_cells))]) [1, 2] rfl
          have hDc := hD.sub (ws' := [(h1, .inr (7, [.int (4 : Int32), .int (2 : Int32), .ref h2, .int s_beasts_size_5])), (h2, .inl (cI, 8, .inl s_beasts_cells))]) [1, 2] (by decide) rfl
          have hFc := va_free (wc := [(h1, .inr (7, [.int (4 : Int32), .int (2 : Int32), .ref h2, .int s_beasts_size_5])), (h2, .inl (cI, 8, .inl s_beasts_cells))]) hD hS hA [1, 2] rfl
          refine va_callv (va_runV (As := [.int r_5, .int (0 : Int32), .int a1]) (rest := []) ⟨hx, hb, hml, hown, hts⟩ (metX7_put (sz := H.size) hf) (cwV 3 hts gX5_addBeast_X7_put rfl rfl rfl ⟨rfl, kX7_put⟩ ⟨Nat.le_of_ble_eq_true rfl, Nat.le_of_ble_eq_true rfl⟩) ⟨PR.blind, va_recv hK hPc (ci := 7) (q0 := 0) rfl rfl, fun U hU hW => ⟨rfl, PR.go hU hW hPc hDc hK hN⟩⟩ rfl rfl hl.1 rfl (lv_room (Nat.le_of_ble_eq_true rfl)) dX5_addBeast_38 ⟨Nat.zero_le _, Nat.zero_le _⟩) hS (fun q _ h => hFc q h) hFc (fun u t H1 locs ht hvm hf hB hz1 hk1 hS => ?_)
          obtain ⟨s_beasts_cells_7, rfl⟩ : ∃ z, z = u := ⟨_, rfl⟩
          have hP1 : va_P (dC, dI) vwCl [(h1, .inr (7, [.int (4 : Int32), .int (2 : Int32), .ref h2, .int s_beasts_size_5])), (h2, .inl (cI, 8, .inl s_beasts_cells_7))] H1 := by rw [← ht]; exact hB.1
          have hD1 : va_D (va_A [(h1, .inr (7, [.int (4 : Int32), .int (2 : Int32), .ref h2, .int s_beasts_size_5])), (h2, .inl (cI, 8, .inl s_beasts_cells))] H.size) [(h1, .inr (7, [.int (4 : Int32), .int (2 : Int32), .ref h2, .int s_beasts_size_5])), (h2, .inl (cI, 8, .inl s_beasts_cells_7))] := hB.2
          obtain ⟨hP, hD⟩ := jn (wr := [(h0, .inr (5, [.ref r_kinds, .ref r_passers, .ref h1, .ref r_checks, .ref r_looks, .int s_high, .int s_low]))]) (ws' := [(h0, .inr (5, [.ref r_kinds, .ref r_passers, .ref h1, .ref r_checks, .ref r_looks, .int s_high, .int s_low])), (h1, .inr (7, [.int (4 : Int32), .int (2 : Int32), .ref h2, .int s_beasts_size_5])), (h2, .inl (cI, 8, .inl s_beasts_cells_7))]) hP hD [1, 2] [0] rfl rfl (by decide) (by decide) hk1 hFc hP1 hD1 [0, 1, 2] (by decide) rfl
          clear hP1 hD1 hB hk1 hz1 hvm ht hPc hDc hFc
          generalize H1 = H at hP hS ⊢
          try dsimp only at hf
          refine lv_aload_n hx hb dX5_addBeast_41 rfl (lv_at hl 1 rfl) ?_
          refine va_get (D := (dC, dI)) (ci := 5) (v := .ref h1) (C := RX5) (T := TX5) (N := 7) hx hb hts iX5_addBeast_X5 hown hK hP 0 rfl rfl 2 (by decide) (hts _ mX5_addBeast_f20) (fun _ h9 => h9) rfl dX5_addBeast_42 ?_
          refine lv_iload_n hx hb dX5_addBeast_45 rfl (lv_at hl 0 rfl) ?_
          refine lv_iconst (v := (1 : Int32)) hx hb dX5_addBeast_46 (by decide) ?_
          refine lv_iload_n hx hb dX5_addBeast_47 rfl (lv_at hl 3 rfl) ?_
          have hPc := hP.sub (ws' := [(h1, .inr (7, [.int (4 : Int32), .int (2 : Int32), .ref h2, .int s_beasts_size_5])), (h2, .inl (cI, 8, .inl s_beasts_cells_7))]) [1, 2] rfl
          have hDc := hD.sub (ws' := [(h1, .inr (7, [.int (4 : Int32), .int (2 : Int32), .ref h2, .int s_beasts_size_5])), (h2, .inl (cI, 8, .inl s_beasts_cells_7))]) [1, 2] (by decide) rfl
          have hFc := va_free (wc := [(h1, .inr (7, [.int (4 : Int32), .int (2 : Int32), .ref h2, .int s_beasts_size_5])), (h2, .inl (cI, 8, .inl s_beasts_cells_7))]) hD hS hA [1, 2] rfl
          refine va_callv (va_runV (As := [.int r_5, .int (1 : Int32), .int a2]) (rest := []) ⟨hx, hb, hml, hown, hts⟩ (metX7_put (sz := H.size) hf) (cwV 3 hts gX5_addBeast_X7_put rfl rfl rfl ⟨rfl, kX7_put⟩ ⟨Nat.le_of_ble_eq_true rfl, Nat.le_of_ble_eq_true rfl⟩) ⟨PR.blind, va_recv hK hPc (ci := 7) (q0 := 0) rfl rfl, fun U hU hW => ⟨rfl, PR.go hU hW hPc hDc hK hN⟩⟩ rfl rfl hl.1 rfl (lv_room (Nat.le_of_ble_eq_true rfl)) dX5_addBeast_48 ⟨Nat.zero_le _, Nat.zero_le _⟩) hS (fun q _ h => hFc q h) hFc (fun u t H1 locs ht hvm hf hB hz1 hk1 hS => ?_)
          obtain ⟨s_beasts_cells_8, rfl⟩ : ∃ z, z = u := ⟨_, rfl⟩
          have hP1 : va_P (dC, dI) vwCl [(h1, .inr (7, [.int (4 : Int32), .int (2 : Int32), .ref h2, .int s_beasts_size_5])), (h2, .inl (cI, 8, .inl s_beasts_cells_8))] H1 := by rw [← ht]; exact hB.1
          have hD1 : va_D (va_A [(h1, .inr (7, [.int (4 : Int32), .int (2 : Int32), .ref h2, .int s_beasts_size_5])), (h2, .inl (cI, 8, .inl s_beasts_cells_7))] H.size) [(h1, .inr (7, [.int (4 : Int32), .int (2 : Int32), .ref h2, .int s_beasts_size_5])), (h2, .inl (cI, 8, .inl s_beasts_cells_8))] := hB.2
          obtain ⟨hP, hD⟩ := jn (wr := [(h0, .inr (5, [.ref r_kinds, .ref r_passers, .ref h1, .ref r_checks, .ref r_looks, .int s_high, .int s_low]))]) (ws' := [(h0, .inr (5, [.ref r_kinds, .ref r_passers, .ref h1, .ref r_checks, .ref r_looks, .int s_high, .int s_low])), (h1, .inr (7, [.int (4 : Int32), .int (2 : Int32), .ref h2, .int s_beasts_size_5])), (h2, .inl (cI, 8, .inl s_beasts_cells_8))]) hP hD [1, 2] [0] rfl rfl (by decide) (by decide) hk1 hFc hP1 hD1 [0, 1, 2] (by decide) rfl
          clear hP1 hD1 hB hk1 hz1 hvm ht hPc hDc hFc
          generalize H1 = H at hP hS ⊢
          try dsimp only at hf
          refine lv_iload_n hx hb dX5_addBeast_51 rfl (lv_at hl 0 rfl) ?_
          exact W.iret (v := r_5) hx hb hr (fun t ht hW => ⟨⟨r_5, (s_beasts_size_5, s_beasts_cells_8), rfl, hf, by rw [ht]; exact hP, hD⟩, hS.F ht⟩) hS.2.2 dX5_addBeast_52
      · replace hf := hf.1 c_4
        refine lv_bipush (v := (-2 : Int32)) hx hb dX5_addBeast_14 (by decide) ?_
        exact W.iret (v := (-2 : Int32)) hx hb hr (fun t ht hW => ⟨⟨(-2 : Int32), (s_beasts_size, s_beasts_cells), rfl, hf, by rw [ht]; exact hP, hD⟩, hS.F ht⟩) hS.2.2 dX5_addBeast_16
  rw [hH, hlo] at hG
  exact hG
set_option maxHeartbeats 4000000 in
set_option maxRecDepth 100000 in
theorem metX5_makeNew {h0 r_kinds h1 r_passers_cells h2 r_beasts_cells h3 r_checks_cells h4 r_looks_cells : Nat} {s_high s_low s_passers_size s_beasts_size s_checks_size s_looks_size : Int32}  {sz : Nat} {k : Int32 → Int32 → Int32 → Int32 → Int32 → Int32 → Prop} (hf : pX5_makeNew s_high s_low s_passers_size s_beasts_size s_checks_size s_looks_size k) : Met l yX5_makeNew wsX5_makeNew ({ frames := 1, cells := 0, slots := 0, locals := 20 } : Room) (va_Pc [.ref h0] (PR dC dI (TYS cI cL cB cZ cT cR) [(h0, .inr (5, [.ref r_kinds, .ref h1, .ref h2, .ref h3, .ref h4, .int s_high, .int s_low])), (h1, .inr (7, [.int (12 : Int32), .int (6 : Int32), .ref r_passers_cells, .int s_passers_size])), (h2, .inr (7, [.int (4 : Int32), .int (2 : Int32), .ref r_beasts_cells, .int s_beasts_size])), (h3, .inr (7, [.int (5 : Int32), .int (3 : Int32), .ref r_checks_cells, .int s_checks_size])), (h4, .inr (7, [.int (6 : Int32), .int (2 : Int32), .ref r_looks_cells, .int s_looks_size]))] sz)) (va_Qv (fun (u : Int32 × Int32 × Int32 × Int32 × Int32 × Int32) => k u.1 u.2.1 u.2.2.1 u.2.2.2.1 u.2.2.2.2.1 u.2.2.2.2.2) (fun (u : Int32 × Int32 × Int32 × Int32 × Int32 × Int32) t => va_P (dC, dI) vwCl [(h0, .inr (5, [.ref r_kinds, .ref h1, .ref h2, .ref h3, .ref h4, .int u.1, .int u.2.1])), (h1, .inr (7, [.int (12 : Int32), .int (6 : Int32), .ref r_passers_cells, .int u.2.2.1])), (h2, .inr (7, [.int (4 : Int32), .int (2 : Int32), .ref r_beasts_cells, .int u.2.2.2.1])), (h3, .inr (7, [.int (5 : Int32), .int (3 : Int32), .ref r_checks_cells, .int u.2.2.2.2.1])), (h4, .inr (7, [.int (6 : Int32), .int (2 : Int32), .ref r_looks_cells, .int u.2.2.2.2.2]))] t.heap ∧ va_D (va_A [(h0, .inr (5, [.ref r_kinds, .ref h1, .ref h2, .ref h3, .ref h4, .int s_high, .int s_low])), (h1, .inr (7, [.int (12 : Int32), .int (6 : Int32), .ref r_passers_cells, .int s_passers_size])), (h2, .inr (7, [.int (4 : Int32), .int (2 : Int32), .ref r_beasts_cells, .int s_beasts_size])), (h3, .inr (7, [.int (5 : Int32), .int (3 : Int32), .ref r_checks_cells, .int s_checks_size])), (h4, .inr (7, [.int (6 : Int32), .int (2 : Int32), .ref r_looks_cells, .int s_looks_size]))] sz) [(h0, .inr (5, [.ref r_kinds, .ref h1, .ref h2, .ref h3, .ref h4, .int u.1, .int u.2.1])), (h1, .inr (7, [.int (12 : Int32), .int (6 : Int32), .ref r_passers_cells, .int u.2.2.1])), (h2, .inr (7, [.int (4 : Int32), .int (2 : Int32), .ref r_beasts_cells, .int u.2.2.2.1])), (h3, .inr (7, [.int (5 : Int32), .int (3 : Int32), .ref r_checks_cells, .int u.2.2.2.2.1])), (h4, .inr (7, [.int (6 : Int32), .int (2 : Int32), .ref r_looks_cells, .int u.2.2.2.2.2]))]) (va_A [(h0, .inr (5, [.ref r_kinds, .ref h1, .ref h2, .ref h3, .ref h4, .int s_high, .int s_low])), (h1, .inr (7, [.int (12 : Int32), .int (6 : Int32), .ref r_passers_cells, .int s_passers_size])), (h2, .inr (7, [.int (4 : Int32), .int (2 : Int32), .ref r_beasts_cells, .int s_beasts_size])), (h3, .inr (7, [.int (5 : Int32), .int (3 : Int32), .ref r_checks_cells, .int s_checks_size])), (h4, .inr (7, [.int (6 : Int32), .int (2 : Int32), .ref r_looks_cells, .int s_looks_size]))] sz)) 0 0 (va_A [(h0, .inr (5, [.ref r_kinds, .ref h1, .ref h2, .ref h3, .ref h4, .int s_high, .int s_low])), (h1, .inr (7, [.int (12 : Int32), .int (6 : Int32), .ref r_passers_cells, .int s_passers_size])), (h2, .inr (7, [.int (4 : Int32), .int (2 : Int32), .ref r_beasts_cells, .int s_beasts_size])), (h3, .inr (7, [.int (5 : Int32), .int (3 : Int32), .ref r_checks_cells, .int s_checks_size])), (h4, .inr (7, [.int (6 : Int32), .int (2 : Int32), .ref r_looks_cells, .int s_looks_size]))] sz) := by
  refine Met.ofW (cc := cX5_makeNew) (maxL := 1) (ret := none) (by decide) rfl ?_
  intro p e s m args below meth c s₁ B hml hv
  obtain ⟨rfl, hsz, hP, hK, hN, hD0⟩ := hv
  have C : CX p s m _ meth c cX5_makeNew 1 wsX5_makeNew RX5 none := ⟨B.exec, B.bytes, hml, findClass_of_methodNamed B.named, atoms_spec (ws := wsX5_makeNew) B.pre, B.returns, B.notSynchronized⟩
  obtain ⟨hx, hb, -, hown, hts, hr, hlocks⟩ := id C
  subst hsz
  have hD := hD0.self (sz := s.heap.size)
  generalize hAe : va_A [(h0, .inr (5, [.ref r_kinds, .ref h1, .ref h2, .ref h3, .ref h4, .int s_high, .int s_low])), (h1, .inr (7, [.int (12 : Int32), .int (6 : Int32), .ref r_passers_cells, .int s_passers_size])), (h2, .inr (7, [.int (4 : Int32), .int (2 : Int32), .ref r_beasts_cells, .int s_beasts_size])), (h3, .inr (7, [.int (5 : Int32), .int (3 : Int32), .ref r_checks_cells, .int s_checks_size])), (h4, .inr (7, [.int (6 : Int32), .int (2 : Int32), .ref r_looks_cells, .int s_looks_size]))] s.heap.size = A at hD ⊢
  have hA : ∀ q : Nat, s.heap.size ≤ q → A q := fun q h => by rw [← hAe]; exact Or.inr h
  have hS : va_S A s.heap s.heap [] := va_S.rf
  have hl := lv_entry ([.ref h0]) (n := 1) (Nat.le_of_ble_eq_true rfl)
  rw [lg_entry_eq]
  generalize (lg_sl ([.ref h0]) ++ List.replicate (1 - (lg_sl ([.ref h0])).length) Slot.unset).toArray = ls at hl ⊢
  have hl : lv_has ls 1 [(0, .ref h0)] := hl
  unfold pX5_makeNew at hf
  obtain ⟨H, hH⟩ : ∃ H, H = s.heap := ⟨_, rfl⟩
  obtain ⟨locs, hlo⟩ : ∃ L : List Loc, L = [] := ⟨_, rfl⟩
  have hS : va_S A s.heap H locs := by rw [hH, hlo]; exact hS
  rw [← hH] at hP
  have hG : W p l e ({ frames := 1, cells := 0, slots := 0, locals := 20 } : Room) s m [.ref h0].toArray below meth c H locs 0 0 (MQ below (va_Qv (fun (u : Int32 × Int32 × Int32 × Int32 × Int32 × Int32) => k u.1 u.2.1 u.2.2.1 u.2.2.2.1 u.2.2.2.2.1 u.2.2.2.2.2) (fun (u : Int32 × Int32 × Int32 × Int32 × Int32 × Int32) t => va_P (dC, dI) vwCl [(h0, .inr (5, [.ref r_kinds, .ref h1, .ref h2, .ref h3, .ref h4, .int u.1, .int u.2.1])), (h1, .inr (7, [.int (12 : Int32), .int (6 : Int32), .ref r_passers_cells, .int u.2.2.1])), (h2, .inr (7, [.int (4 : Int32), .int (2 : Int32), .ref r_beasts_cells, .int u.2.2.2.1])), (h3, .inr (7, [.int (5 : Int32), .int (3 : Int32), .ref r_checks_cells, .int u.2.2.2.2.1])), (h4, .inr (7, [.int (6 : Int32), .int (2 : Int32), .ref r_looks_cells, .int u.2.2.2.2.2]))] t.heap ∧ va_D A [(h0, .inr (5, [.ref r_kinds, .ref h1, .ref h2, .ref h3, .ref h4, .int u.1, .int u.2.1])), (h1, .inr (7, [.int (12 : Int32), .int (6 : Int32), .ref r_passers_cells, .int u.2.2.1])), (h2, .inr (7, [.int (4 : Int32), .int (2 : Int32), .ref r_beasts_cells, .int u.2.2.2.1])), (h3, .inr (7, [.int (5 : Int32), .int (3 : Int32), .ref r_checks_cells, .int u.2.2.2.2.1])), (h4, .inr (7, [.int (6 : Int32), .int (2 : Int32), .ref r_looks_cells, .int u.2.2.2.2.2]))]) A) [.ref h0].toArray s 0 0 A) (F0 m 0 ls []) := by
    clear hlo hH hD0
    refine lv_aload_n hx hb dX5_makeNew_0 rfl (lv_at hl 0 rfl) ?_
    refine lv_bipush (v := (10 : Int32)) hx hb dX5_makeNew_1 (by decide) ?_
    refine va_put (D := (dC, dI)) (ci := 5) (v := .int (10 : Int32)) (ty := .int) (C := RX5) (T := TX5) (N := 7) hx hb hts iX5_makeNew_X5 tyX5 tyX5_ok nmX5 hown hK hP hD hS 0 rfl rfl 5 (by decide) (hts _ mX5_makeNew_f29) (fun _ h9 => h9) rfl (by decide +kernel) rfl rfl (Nat.le_of_ble_eq_true rfl) dX5_makeNew_3 (fun H locs hP hD hS => ?_)
    replace hP : va_P (dC, dI) vwCl [(h0, .inr (5, [.ref r_kinds, .ref h1, .ref h2, .ref h3, .ref h4, .int (10 : Int32), .int s_low])), (h1, .inr (7, [.int (12 : Int32), .int (6 : Int32), .ref r_passers_cells, .int s_passers_size])), (h2, .inr (7, [.int (4 : Int32), .int (2 : Int32), .ref r_beasts_cells, .int s_beasts_size])), (h3, .inr (7, [.int (5 : Int32), .int (3 : Int32), .ref r_checks_cells, .int s_checks_size])), (h4, .inr (7, [.int (6 : Int32), .int (2 : Int32), .ref r_looks_cells, .int s_looks_size]))] H := hP
    replace hD : va_D A [(h0, .inr (5, [.ref r_kinds, .ref h1, .ref h2, .ref h3, .ref h4, .int (10 : Int32), .int s_low])), (h1, .inr (7, [.int (12 : Int32), .int (6 : Int32), .ref r_passers_cells, .int s_passers_size])), (h2, .inr (7, [.int (4 : Int32), .int (2 : Int32), .ref r_beasts_cells, .int s_beasts_size])), (h3, .inr (7, [.int (5 : Int32), .int (3 : Int32), .ref r_checks_cells, .int s_checks_size])), (h4, .inr (7, [.int (6 : Int32), .int (2 : Int32), .ref r_looks_cells, .int s_looks_size]))] := hD
    refine lv_aload_n hx hb dX5_makeNew_6 rfl (lv_at hl 0 rfl) ?_
    refine lv_iconst (v := (0 : Int32)) hx hb dX5_makeNew_7 (by decide) ?_
    refine va_put (D := (dC, dI)) (ci := 5) (v := .int (0 : Int32)) (ty := .int) (C := RX5) (T := TX5) (N := 7) hx hb hts iX5_makeNew_X5 tyX5 tyX5_ok nmX5 hown hK hP hD hS 0 rfl rfl 6 (by decide) (hts _ mX5_makeNew_f33) (fun _ h9 => h9) rfl (by decide +kernel) rfl rfl (Nat.le_of_ble_eq_true rfl) dX5_makeNew_8 (fun H locs hP hD hS => ?_)
    replace hP : va_P (dC, dI) vwCl [(h0, .inr (5, [.ref r_kinds, .ref h1, .ref h2, .ref h3, .ref h4, .int (10 : Int32), .int (0 : Int32)])), (h1, .inr (7, [.int (12 : Int32), .int (6 : Int32), .ref r_passers_cells, .int s_passers_size])), (h2, .inr (7, [.int (4 : Int32), .int (2 : Int32), .ref r_beasts_cells, .int s_beasts_size])), (h3, .inr (7, [.int (5 : Int32), .int (3 : Int32), .ref r_checks_cells, .int s_checks_size])), (h4, .inr (7, [.int (6 : Int32), .int (2 : Int32), .ref r_looks_cells, .int s_looks_size]))] H := hP
    replace hD : va_D A [(h0, .inr (5, [.ref r_kinds, .ref h1, .ref h2, .ref h3, .ref h4, .int (10 : Int32), .int (0 : Int32)])), (h1, .inr (7, [.int (12 : Int32), .int (6 : Int32), .ref r_passers_cells, .int s_passers_size])), (h2, .inr (7, [.int (4 : Int32), .int (2 : Int32), .ref r_beasts_cells, .int s_beasts_size])), (h3, .inr (7, [.int (5 : Int32), .int (3 : Int32), .ref r_checks_cells, .int s_checks_size])), (h4, .inr (7, [.int (6 : Int32), .int (2 : Int32), .ref r_looks_cells, .int s_looks_size]))] := hD
    refine lv_aload_n hx hb dX5_makeNew_11 rfl (lv_at hl 0 rfl) ?_
    refine va_get (D := (dC, dI)) (ci := 5) (v := .ref h1) (C := RX5) (T := TX5) (N := 7) hx hb hts iX5_makeNew_X5 hown hK hP 0 rfl rfl 1 (by decide) (hts _ mX5_makeNew_f14) (fun _ h9 => h9) rfl dX5_makeNew_12 ?_
    have hPc := hP.sub (ws' := [(h1, .inr (7, [.int (12 : Int32), .int (6 : Int32), .ref r_passers_cells, .int s_passers_size]))]) [1] rfl
    have hDc := hD.sub (ws' := [(h1, .inr (7, [.int (12 : Int32), .int (6 : Int32), .ref r_passers_cells, .int s_passers_size]))]) [1] (by decide) rfl
    have hFc := va_free (wc := [(h1, .inr (7, [.int (12 : Int32), .int (6 : Int32), .ref r_passers_cells, .int s_passers_size]))]) hD hS hA [1] rfl
    refine va_callv (va_runV (As := []) (rest := []) ⟨hx, hb, hml, hown, hts⟩ (metX7_dropAll (sz := H.size) hf) (cwV 0 hts gX5_makeNew_X7_dropAll rfl rfl rfl ⟨rfl, kX7_dropAll⟩ ⟨Nat.le_of_ble_eq_true rfl, Nat.le_of_ble_eq_true rfl⟩) ⟨PR.blind, va_recv hK hPc (ci := 7) (q0 := 0) rfl rfl, fun U hU hW => ⟨rfl, PR.go hU hW hPc hDc hK hN⟩⟩ rfl rfl hl.1 rfl (lv_room (Nat.le_of_ble_eq_true rfl)) dX5_makeNew_15 ⟨Nat.zero_le _, Nat.zero_le _⟩) hS (fun q _ h => hFc q h) hFc (fun u t H1 locs ht hvm hf hB hz1 hk1 hS => ?_)
    obtain ⟨s_passers_size_1, rfl⟩ : ∃ z, z = u := ⟨_, rfl⟩
    have hP1 : va_P (dC, dI) vwCl [(h1, .inr (7, [.int (12 : Int32), .int (6 : Int32), .ref r_passers_cells, .int s_passers_size_1]))] H1 := by rw [← ht]; exact hB.1
    have hD1 : va_D (va_A [(h1, .inr (7, [.int (12 : Int32), .int (6 : Int32), .ref r_passers_cells, .int s_passers_size]))] H.size) [(h1, .inr (7, [.int (12 : Int32), .int (6 : Int32), .ref r_passers_cells, .int s_passers_size_1]))] := hB.2
    obtain ⟨hP, hD⟩ := jn (wr := [(h0, .inr (5, [.ref r_kinds, .ref h1, .ref h2, .ref h3, .ref h4, .int (10 : Int32), .int (0 : Int32)])), (h2, .inr (7, [.int (4 : Int32), .int (2 : Int32), .ref r_beasts_cells, .int s_beasts_size])), (h3, .inr (7, [.int (5 : Int32), .int (3 : Int32), .ref r_checks_cells, .int s_checks_size])), (h4, .inr (7, [.int (6 : Int32), .int (2 : Int32), .ref r_looks_cells, .int s_looks_size]))]) (ws' := [(h0, .inr (5, [.ref r_kinds, .ref h1, .ref h2, .ref h3, .ref h4, .int (10 : Int32), .int (0 : Int32)])), (h1, .inr (7, [.int (12 : Int32), .int (6 : Int32), .ref r_passers_cells, .int s_passers_size_1])), (h2, .inr (7, [.int (4 : Int32), .int (2 : Int32), .ref r_beasts_cells, .int s_beasts_size])), (h3, .inr (7, [.int (5 : Int32), .int (3 : Int32), .ref r_checks_cells, .int s_checks_size])), (h4, .inr (7, [.int (6 : Int32), .int (2 : Int32), .ref r_looks_cells, .int s_looks_size]))]) hP hD [1] [0, 2, 3, 4] rfl rfl (by decide) (by decide) hk1 hFc hP1 hD1 [0, 4, 1, 2, 3] (by decide) rfl
    clear hP1 hD1 hB hk1 hz1 hvm ht hPc hDc hFc
    generalize H1 = H at hP hS ⊢
    try dsimp only at hf
    refine lv_aload_n hx hb dX5_makeNew_18 rfl (lv_at hl 0 rfl) ?_
    refine va_get (D := (dC, dI)) (ci := 5) (v := .ref h2) (C := RX5) (T := TX5) (N := 7) hx hb hts iX5_makeNew_X5 hown hK hP 0 rfl rfl 2 (by decide) (hts _ mX5_makeNew_f20) (fun _ h9 => h9) rfl dX5_makeNew_19 ?_
    have hPc := hP.sub (ws' := [(h2, .inr (7, [.int (4 : Int32), .int (2 : Int32), .ref r_beasts_cells, .int s_beasts_size]))]) [2] rfl
    have hDc := hD.sub (ws' := [(h2, .inr (7, [.int (4 : Int32), .int (2 : Int32), .ref r_beasts_cells, .int s_beasts_size]))]) [2] (by decide) rfl
    have hFc := va_free (wc := [(h2, .inr (7, [.int (4 : Int32), .int (2 : Int32), .ref r_beasts_cells, .int s_beasts_size]))]) hD hS hA [2] rfl
    refine va_callv (va_runV (As := []) (rest := []) ⟨hx, hb, hml, hown, hts⟩ (metX7_dropAll (sz := H.size) hf) (cwV 0 hts gX5_makeNew_X7_dropAll rfl rfl rfl ⟨rfl, kX7_dropAll⟩ ⟨Nat.le_of_ble_eq_true rfl, Nat.le_of_ble_eq_true rfl⟩) ⟨PR.blind, va_recv hK hPc (ci := 7) (q0 := 0) rfl rfl, fun U hU hW => ⟨rfl, PR.go hU hW hPc hDc hK hN⟩⟩ rfl rfl hl.1 rfl (lv_room (Nat.le_of_ble_eq_true rfl)) dX5_makeNew_22 ⟨Nat.zero_le _, Nat.zero_le _⟩) hS (fun q _ h => hFc q h) hFc (fun u t H1 locs ht hvm hf hB hz1 hk1 hS => ?_)
    obtain ⟨s_beasts_size_2, rfl⟩ : ∃ z, z = u := ⟨_, rfl⟩
    have hP1 : va_P (dC, dI) vwCl [(h2, .inr (7, [.int (4 : Int32), .int (2 : Int32), .ref r_beasts_cells, .int s_beasts_size_2]))] H1 := by rw [← ht]; exact hB.1
    have hD1 : va_D (va_A [(h2, .inr (7, [.int (4 : Int32), .int (2 : Int32), .ref r_beasts_cells, .int s_beasts_size]))] H.size) [(h2, .inr (7, [.int (4 : Int32), .int (2 : Int32), .ref r_beasts_cells, .int s_beasts_size_2]))] := hB.2
    obtain ⟨hP, hD⟩ := jn (wr := [(h0, .inr (5, [.ref r_kinds, .ref h1, .ref h2, .ref h3, .ref h4, .int (10 : Int32), .int (0 : Int32)])), (h1, .inr (7, [.int (12 : Int32), .int (6 : Int32), .ref r_passers_cells, .int s_passers_size_1])), (h3, .inr (7, [.int (5 : Int32), .int (3 : Int32), .ref r_checks_cells, .int s_checks_size])), (h4, .inr (7, [.int (6 : Int32), .int (2 : Int32), .ref r_looks_cells, .int s_looks_size]))]) (ws' := [(h0, .inr (5, [.ref r_kinds, .ref h1, .ref h2, .ref h3, .ref h4, .int (10 : Int32), .int (0 : Int32)])), (h1, .inr (7, [.int (12 : Int32), .int (6 : Int32), .ref r_passers_cells, .int s_passers_size_1])), (h2, .inr (7, [.int (4 : Int32), .int (2 : Int32), .ref r_beasts_cells, .int s_beasts_size_2])), (h3, .inr (7, [.int (5 : Int32), .int (3 : Int32), .ref r_checks_cells, .int s_checks_size])), (h4, .inr (7, [.int (6 : Int32), .int (2 : Int32), .ref r_looks_cells, .int s_looks_size]))]) hP hD [2] [0, 1, 3, 4] rfl rfl (by decide) (by decide) hk1 hFc hP1 hD1 [0, 1, 4, 2, 3] (by decide) rfl
    clear hP1 hD1 hB hk1 hz1 hvm ht hPc hDc hFc
    generalize H1 = H at hP hS ⊢
    try dsimp only at hf
    refine lv_aload_n hx hb dX5_makeNew_25 rfl (lv_at hl 0 rfl) ?_
    refine va_get (D := (dC, dI)) (ci := 5) (v := .ref h3) (C := RX5) (T := TX5) (N := 7) hx hb hts iX5_makeNew_X5 hown hK hP 0 rfl rfl 3 (by decide) (hts _ mX5_makeNew_f23) (fun _ h9 => h9) rfl dX5_makeNew_26 ?_
    have hPc := hP.sub (ws' := [(h3, .inr (7, [.int (5 : Int32), .int (3 : Int32), .ref r_checks_cells, .int s_checks_size]))]) [3] rfl
    have hDc := hD.sub (ws' := [(h3, .inr (7, [.int (5 : Int32), .int (3 : Int32), .ref r_checks_cells, .int s_checks_size]))]) [3] (by decide) rfl
    have hFc := va_free (wc := [(h3, .inr (7, [.int (5 : Int32), .int (3 : Int32), .ref r_checks_cells, .int s_checks_size]))]) hD hS hA [3] rfl
    refine va_callv (va_runV (As := []) (rest := []) ⟨hx, hb, hml, hown, hts⟩ (metX7_dropAll (sz := H.size) hf) (cwV 0 hts gX5_makeNew_X7_dropAll rfl rfl rfl ⟨rfl, kX7_dropAll⟩ ⟨Nat.le_of_ble_eq_true rfl, Nat.le_of_ble_eq_true rfl⟩) ⟨PR.blind, va_recv hK hPc (ci := 7) (q0 := 0) rfl rfl, fun U hU hW => ⟨rfl, PR.go hU hW hPc hDc hK hN⟩⟩ rfl rfl hl.1 rfl (lv_room (Nat.le_of_ble_eq_true rfl)) dX5_makeNew_29 ⟨Nat.zero_le _, Nat.zero_le _⟩) hS (fun q _ h => hFc q h) hFc (fun u t H1 locs ht hvm hf hB hz1 hk1 hS => ?_)
    obtain ⟨s_checks_size_3, rfl⟩ : ∃ z, z = u := ⟨_, rfl⟩
    have hP1 : va_P (dC, dI) vwCl [(h3, .inr (7, [.int (5 : Int32), .int (3 : Int32), .ref r_checks_cells, .int s_checks_size_3]))] H1 := by rw [← ht]; exact hB.1
    have hD1 : va_D (va_A [(h3, .inr (7, [.int (5 : Int32), .int (3 : Int32), .ref r_checks_cells, .int s_checks_size]))] H.size) [(h3, .inr (7, [.int (5 : Int32), .int (3 : Int32), .ref r_checks_cells, .int s_checks_size_3]))] := hB.2
    obtain ⟨hP, hD⟩ := jn (wr := [(h0, .inr (5, [.ref r_kinds, .ref h1, .ref h2, .ref h3, .ref h4, .int (10 : Int32), .int (0 : Int32)])), (h1, .inr (7, [.int (12 : Int32), .int (6 : Int32), .ref r_passers_cells, .int s_passers_size_1])), (h2, .inr (7, [.int (4 : Int32), .int (2 : Int32), .ref r_beasts_cells, .int s_beasts_size_2])), (h4, .inr (7, [.int (6 : Int32), .int (2 : Int32), .ref r_looks_cells, .int s_looks_size]))]) (ws' := [(h0, .inr (5, [.ref r_kinds, .ref h1, .ref h2, .ref h3, .ref h4, .int (10 : Int32), .int (0 : Int32)])), (h1, .inr (7, [.int (12 : Int32), .int (6 : Int32), .ref r_passers_cells, .int s_passers_size_1])), (h2, .inr (7, [.int (4 : Int32), .int (2 : Int32), .ref r_beasts_cells, .int s_beasts_size_2])), (h3, .inr (7, [.int (5 : Int32), .int (3 : Int32), .ref r_checks_cells, .int s_checks_size_3])), (h4, .inr (7, [.int (6 : Int32), .int (2 : Int32), .ref r_looks_cells, .int s_looks_size]))]) hP hD [3] [0, 1, 2, 4] rfl rfl (by decide) (by decide) hk1 hFc hP1 hD1 [0, 1, 2, 4, 3] (by decide) rfl
    clear hP1 hD1 hB hk1 hz1 hvm ht hPc hDc hFc
    generalize H1 = H at hP hS ⊢
    try dsimp only at hf
    refine lv_aload_n hx hb dX5_makeNew_32 rfl (lv_at hl 0 rfl) ?_
    refine va_get (D := (dC, dI)) (ci := 5) (v := .ref h4) (C := RX5) (T := TX5) (N := 7) hx hb hts iX5_makeNew_X5 hown hK hP 0 rfl rfl 4 (by decide) (hts _ mX5_makeNew_f26) (fun _ h9 => h9) rfl dX5_makeNew_33 ?_
    have hPc := hP.sub (ws' := [(h4, .inr (7, [.int (6 : Int32), .int (2 : Int32), .ref r_looks_cells, .int s_looks_size]))]) [4] rfl
    have hDc := hD.sub (ws' := [(h4, .inr (7, [.int (6 : Int32), .int (2 : Int32), .ref r_looks_cells, .int s_looks_size]))]) [4] (by decide) rfl
    have hFc := va_free (wc := [(h4, .inr (7, [.int (6 : Int32), .int (2 : Int32), .ref r_looks_cells, .int s_looks_size]))]) hD hS hA [4] rfl
    refine va_callv (va_runV (As := []) (rest := []) ⟨hx, hb, hml, hown, hts⟩ (metX7_dropAll (sz := H.size) hf) (cwV 0 hts gX5_makeNew_X7_dropAll rfl rfl rfl ⟨rfl, kX7_dropAll⟩ ⟨Nat.le_of_ble_eq_true rfl, Nat.le_of_ble_eq_true rfl⟩) ⟨PR.blind, va_recv hK hPc (ci := 7) (q0 := 0) rfl rfl, fun U hU hW => ⟨rfl, PR.go hU hW hPc hDc hK hN⟩⟩ rfl rfl hl.1 rfl (lv_room (Nat.le_of_ble_eq_true rfl)) dX5_makeNew_36 ⟨Nat.zero_le _, Nat.zero_le _⟩) hS (fun q _ h => hFc q h) hFc (fun u t H1 locs ht hvm hf hB hz1 hk1 hS => ?_)
    obtain ⟨s_looks_size_4, rfl⟩ : ∃ z, z = u := ⟨_, rfl⟩
    have hP1 : va_P (dC, dI) vwCl [(h4, .inr (7, [.int (6 : Int32), .int (2 : Int32), .ref r_looks_cells, .int s_looks_size_4]))] H1 := by rw [← ht]; exact hB.1
    have hD1 : va_D (va_A [(h4, .inr (7, [.int (6 : Int32), .int (2 : Int32), .ref r_looks_cells, .int s_looks_size]))] H.size) [(h4, .inr (7, [.int (6 : Int32), .int (2 : Int32), .ref r_looks_cells, .int s_looks_size_4]))] := hB.2
    obtain ⟨hP, hD⟩ := jn (wr := [(h0, .inr (5, [.ref r_kinds, .ref h1, .ref h2, .ref h3, .ref h4, .int (10 : Int32), .int (0 : Int32)])), (h1, .inr (7, [.int (12 : Int32), .int (6 : Int32), .ref r_passers_cells, .int s_passers_size_1])), (h2, .inr (7, [.int (4 : Int32), .int (2 : Int32), .ref r_beasts_cells, .int s_beasts_size_2])), (h3, .inr (7, [.int (5 : Int32), .int (3 : Int32), .ref r_checks_cells, .int s_checks_size_3]))]) (ws' := [(h0, .inr (5, [.ref r_kinds, .ref h1, .ref h2, .ref h3, .ref h4, .int (10 : Int32), .int (0 : Int32)])), (h1, .inr (7, [.int (12 : Int32), .int (6 : Int32), .ref r_passers_cells, .int s_passers_size_1])), (h2, .inr (7, [.int (4 : Int32), .int (2 : Int32), .ref r_beasts_cells, .int s_beasts_size_2])), (h3, .inr (7, [.int (5 : Int32), .int (3 : Int32), .ref r_checks_cells, .int s_checks_size_3])), (h4, .inr (7, [.int (6 : Int32), .int (2 : Int32), .ref r_looks_cells, .int s_looks_size_4]))]) hP hD [4] [0, 1, 2, 3] rfl rfl (by decide) (by decide) hk1 hFc hP1 hD1 [0, 1, 2, 3, 4] (by decide) rfl
    clear hP1 hD1 hB hk1 hz1 hvm ht hPc hDc hFc
    generalize H1 = H at hP hS ⊢
    try dsimp only at hf
    exact W.vret hx hb hr (fun t ht hW => ⟨⟨((10 : Int32), (0 : Int32), s_passers_size_1, s_beasts_size_2, s_checks_size_3, s_looks_size_4), rfl, hf, by rw [ht]; exact hP, hD⟩, hS.F ht⟩) hS.2.2 dX5_makeNew_39
  rw [hH, hlo] at hG
  exact hG
set_option maxHeartbeats 4000000 in
set_option maxRecDepth 100000 in
theorem wX5_addCheck_24 {p : Program} {e : Env} {s : State} {m : MethodId} {args : Array Value} {below : List Frame} {meth : Method} {c : Code} (C : CX p s m args meth c cX5_addCheck 6 wsX5_addCheck RX5 (some .int)) (hK : va_K (dC, dI) vwCl (TYS cI cL cB cZ cT cR) s) (hN : NW s) {A : Nat → Prop} (hA : ∀ q : Nat, s.heap.size ≤ q → A q) {h0 r_kinds r_passers r_beasts r_looks h1 h2 : Nat} {s_high s_low : Int32} {k : Int32 → Int32 → (Nat → Int32) → Prop} : ∀ (x1 : Int32) (x2 : Int32) (x3 : Int32) (y0 : Int32) (s_checks_size : Int32) (s_checks_cells : Nat → Int32) (H : Heap) (locs : List Loc) (ls : Array Slot), va_P (dC, dI) vwCl [(h0, .inr (5, [.ref r_kinds, .ref r_passers, .ref r_beasts, .ref h1, .ref r_looks, .int s_high, .int s_low])), (h1, .inr (7, [.int (5 : Int32), .int (3 : Int32), .ref h2, .int s_checks_size])), (h2, .inl (cI, 15, .inl s_checks_cells))] H → va_D A [(h0, .inr (5, [.ref r_kinds, .ref r_passers, .ref r_beasts, .ref h1, .ref r_looks, .int s_high, .int s_low])), (h1, .inr (7, [.int (5 : Int32), .int (3 : Int32), .ref h2, .int s_checks_size])), (h2, .inl (cI, 15, .inl s_checks_cells))] → va_S A s.heap H locs → lv_has ls 6 [(0, .ref h0), (1, .int x1), (2, .int x2), (3, .int x3)] → pX5_addCheck_24 k x1 x2 x3 y0 s_checks_size s_checks_cells → W p l e ({ frames := 2, cells := 0, slots := 0, locals := 44 } : Room) s m args below meth c H locs 0 0 (MQ below (va_Qi (fun (r : Int32) (u : Int32 × (Nat → Int32)) => k r u.1 u.2) (fun (u : Int32 × (Nat → Int32)) t => va_P (dC, dI) vwCl [(h0, .inr (5, [.ref r_kinds, .ref r_passers, .ref r_beasts, .ref h1, .ref r_looks, .int s_high, .int s_low])), (h1, .inr (7, [.int (5 : Int32), .int (3 : Int32), .ref h2, .int u.1])), (h2, .inl (cI, 15, .inl u.2))] t.heap ∧ va_D A [(h0, .inr (5, [.ref r_kinds, .ref r_passers, .ref r_beasts, .ref h1, .ref r_looks, .int s_high, .int s_low])), (h1, .inr (7, [.int (5 : Int32), .int (3 : Int32), .ref h2, .int u.1])), (h2, .inl (cI, 15, .inl u.2))]) A) args s 0 0 A) (F0 m 24 ls [.int y0]) := by
  obtain ⟨hx, hb, hml, hown, hts, hr, hlocks⟩ := id C
  intro x1 x2 x3 y0 s_checks_size s_checks_cells H locs ls hP hD hS hl hf
  unfold pX5_addCheck_24 at hf
  refine lv_istore (lv' := [(4, .int y0), (0, .ref h0), (1, .int x1), (2, .int x2), (3, .int x3)]) hx hb dX5_addCheck_24 hl (by decide) rfl (fun ls hl => ?_)
  refine lv_iload hx hb dX5_addCheck_26 (lv_at hl 0 rfl) ?_
  refine lv_if_eq (tgt := 50) hx hb dX5_addCheck_28 (by decide) (fun c_3 => ?_) (fun c_3 => ?_)
  · replace hf := hf.1 c_3
    refine lv_bipush (v := (-2 : Int32)) hx hb dX5_addCheck_50 (by decide) ?_
    exact W.iret (v := (-2 : Int32)) hx hb hr (fun t ht hW => ⟨⟨(-2 : Int32), (s_checks_size, s_checks_cells), rfl, hf, by rw [ht]; exact hP, hD⟩, hS.F ht⟩) hS.2.2 dX5_addCheck_52
  · replace hf := hf.2 c_3
    refine lv_iload_n hx hb dX5_addCheck_31 rfl (lv_at hl 3 rfl) ?_
    have hPc := hP.sub (ws' := []) [] rfl
    refine ro_calli (va_runSN (As := [.int x2]) (rest := []) ⟨hx, hb, hml, hown, hts⟩ (metX11_isHigh hf) ⟨va_cnB 1 hts gX5_addCheck_X11_isHigh_n47 rfl rfl rfl (hN _ nwm_0) (hts _ mX5_addCheck_iX11) kX11_isHigh ⟨Nat.le_of_ble_eq_true rfl, Nat.le_of_ble_eq_true rfl⟩, hts _ mX5_addCheck_sX11_isHigh, trivial⟩ ⟨PW.blind, fun U hU hW => ⟨rfl, PW.go hU hW hPc hK hN⟩⟩ rfl rfl hl.1 rfl (lv_room (Nat.le_of_ble_eq_true rfl)) dX5_addCheck_32 ⟨Nat.zero_le _, Nat.zero_le _⟩) (fun r_4 hf => ?_)
    refine lv_if_eq (tgt := 50) hx hb dX5_addCheck_35 (by decide) (fun c_5 => ?_) (fun c_5 => ?_)
    · replace hf := hf.1 c_5
      refine lv_bipush (v := (-2 : Int32)) hx hb dX5_addCheck_50 (by decide) ?_
      exact W.iret (v := (-2 : Int32)) hx hb hr (fun t ht hW => ⟨⟨(-2 : Int32), (s_checks_size, s_checks_cells), rfl, hf, by rw [ht]; exact hP, hD⟩, hS.F ht⟩) hS.2.2 dX5_addCheck_52
    · replace hf := hf.2 c_5
      refine lv_iload_n hx hb dX5_addCheck_38 rfl (lv_at hl 4 rfl) ?_
      have hPc := hP.sub (ws' := []) [] rfl
      refine ro_calli (va_runSN (As := [.int x3]) (rest := []) ⟨hx, hb, hml, hown, hts⟩ (metX11_isHigh hf) ⟨va_cnB 1 hts gX5_addCheck_X11_isHigh_n47 rfl rfl rfl (hN _ nwm_0) (hts _ mX5_addCheck_iX11) kX11_isHigh ⟨Nat.le_of_ble_eq_true rfl, Nat.le_of_ble_eq_true rfl⟩, hts _ mX5_addCheck_sX11_isHigh, trivial⟩ ⟨PW.blind, fun U hU hW => ⟨rfl, PW.go hU hW hPc hK hN⟩⟩ rfl rfl hl.1 rfl (lv_room (Nat.le_of_ble_eq_true rfl)) dX5_addCheck_39 ⟨Nat.zero_le _, Nat.zero_le _⟩) (fun r_6 hf => ?_)
      refine lv_if_eq (tgt := 50) hx hb dX5_addCheck_42 (by decide) (fun c_7 => ?_) (fun c_7 => ?_)
      · replace hf := hf.1 c_7
        refine lv_bipush (v := (-2 : Int32)) hx hb dX5_addCheck_50 (by decide) ?_
        exact W.iret (v := (-2 : Int32)) hx hb hr (fun t ht hW => ⟨⟨(-2 : Int32), (s_checks_size, s_checks_cells), rfl, hf, by rw [ht]; exact hP, hD⟩, hS.F ht⟩) hS.2.2 dX5_addCheck_52
      · replace hf := hf.2 c_7
        refine lv_iload_n hx hb dX5_addCheck_45 rfl (lv_at hl 3 rfl) ?_
        refine lv_iload_n hx hb dX5_addCheck_46 rfl (lv_at hl 4 rfl) ?_
        refine lv_icmp_le (tgt := 53) hx hb dX5_addCheck_47 (by decide) (fun c_8 => ?_) (fun c_8 => ?_)
        · replace hf := hf.1 c_8
          refine lv_aload_n hx hb dX5_addCheck_53 rfl (lv_at hl 1 rfl) ?_
          refine va_get (D := (dC, dI)) (ci := 5) (v := .ref h1) (C := RX5) (T := TX5) (N := 7) hx hb hts iX5_addCheck_X5 hown hK hP 0 rfl rfl 3 (by decide) (hts _ mX5_addCheck_f23) (fun _ h9 => h9) rfl dX5_addCheck_54 ?_
          have hPc := hP.sub (ws' := [(h1, .inr (7, [.int (5 : Int32), .int (3 : Int32), .ref h2, .int s_checks_size]))]) [1] rfl
          have hDc := hD.sub (ws' := [(h1, .inr (7, [.int (5 : Int32), .int (3 : Int32), .ref h2, .int s_checks_size]))]) [1] (by decide) rfl
          have hFc := va_free (wc := [(h1, .inr (7, [.int (5 : Int32), .int (3 : Int32), .ref h2, .int s_checks_size]))]) hD hS hA [1] rfl
          refine va_calli (va_runV (As := []) (rest := []) ⟨hx, hb, hml, hown, hts⟩ (metX7_open (sz := H.size) hf) (cwV 0 hts gX5_addCheck_X7_open rfl rfl rfl ⟨rfl, kX7_open⟩ ⟨Nat.le_of_ble_eq_true rfl, Nat.le_of_ble_eq_true rfl⟩) ⟨PR.blind, va_recv hK hPc (ci := 7) (q0 := 0) rfl rfl, fun U hU hW => ⟨rfl, PR.go hU hW hPc hDc hK hN⟩⟩ rfl rfl hl.1 rfl (lv_room (Nat.le_of_ble_eq_true rfl)) dX5_addCheck_57 ⟨Nat.zero_le _, Nat.zero_le _⟩) hS (fun q _ h => hFc q h) hFc (fun r_9 u t H1 locs ht hvm hf hB hz1 hk1 hS => ?_)
          obtain ⟨s_checks_size_9, rfl⟩ : ∃ z, z = u := ⟨_, rfl⟩
          have hP1 : va_P (dC, dI) vwCl [(h1, .inr (7, [.int (5 : Int32), .int (3 : Int32), .ref h2, .int s_checks_size_9]))] H1 := by rw [← ht]; exact hB.1
          have hD1 : va_D (va_A [(h1, .inr (7, [.int (5 : Int32), .int (3 : Int32), .ref h2, .int s_checks_size]))] H.size) [(h1, .inr (7, [.int (5 : Int32), .int (3 : Int32), .ref h2, .int s_checks_size_9]))] := hB.2
          obtain ⟨hP, hD⟩ := jn (wr := [(h0, .inr (5, [.ref r_kinds, .ref r_passers, .ref r_beasts, .ref h1, .ref r_looks, .int s_high, .int s_low])), (h2, .inl (cI, 15, .inl s_checks_cells))]) (ws' := [(h0, .inr (5, [.ref r_kinds, .ref r_passers, .ref r_beasts, .ref h1, .ref r_looks, .int s_high, .int s_low])), (h1, .inr (7, [.int (5 : Int32), .int (3 : Int32), .ref h2, .int s_checks_size_9])), (h2, .inl (cI, 15, .inl s_checks_cells))]) hP hD [1] [0, 2] rfl rfl (by decide) (by decide) hk1 hFc hP1 hD1 [0, 2, 1] (by decide) rfl
          clear hP1 hD1 hB hk1 hz1 hvm ht hPc hDc hFc
          generalize H1 = H at hP hS ⊢
          try dsimp only at hf
          refine lv_istore (lv' := [(5, .int r_9), (4, .int y0), (0, .ref h0), (1, .int x1), (2, .int x2), (3, .int x3)]) hx hb dX5_addCheck_60 hl (by decide) rfl (fun ls hl => ?_)
          refine lv_iload hx hb dX5_addCheck_62 (lv_at hl 0 rfl) ?_
          refine lv_bipush (v := (-4 : Int32)) hx hb dX5_addCheck_64 (by decide) ?_
          refine lv_icmp_eq (tgt := 102) hx hb dX5_addCheck_66 (by decide) (fun c_10 => ?_) (fun c_10 => ?_)
          · replace hf := hf.1 c_10
            refine lv_iload hx hb dX5_addCheck_102 (lv_at hl 0 rfl) ?_
            exact W.iret (v := r_9) hx hb hr (fun t ht hW => ⟨⟨r_9, (s_checks_size_9, s_checks_cells), rfl, hf, by rw [ht]; exact hP, hD⟩, hS.F ht⟩) hS.2.2 dX5_addCheck_104
          · replace hf := hf.2 c_10
            refine lv_aload_n hx hb dX5_addCheck_69 rfl (lv_at hl 2 rfl) ?_
            refine va_get (D := (dC, dI)) (ci := 5) (v := .ref h1) (C := RX5) (T := TX5) (N := 7) hx hb hts iX5_addCheck_X5 hown hK hP 0 rfl rfl 3 (by decide) (hts _ mX5_addCheck_f23) (fun _ h9 => h9) rfl dX5_addCheck_70 ?_
            refine lv_iload hx hb dX5_addCheck_73 (lv_at hl 0 rfl) ?_
            refine lv_iconst (v := (0 : Int32)) hx hb dX5_addCheck_75 (by decide) ?_
            refine lv_iload_n hx hb dX5_addCheck_76 rfl (lv_at hl 3 rfl) ?_
            have hPc := hP.sub (ws' := [(h1, .inr (7, [.int (5 : Int32), .int (3 : Int32), .ref h2, .int s_checks_size_9])), (h2, .inl (cI, 15, .inl s_checks_cells))]) [1, 2] rfl
            have hDc := hD.sub (ws' := [(h1, .inr (7, [.int (5 : Int32), .int (3 : Int32), .ref h2, .int s_checks_size_9])), (h2, .inl (cI, 15, .inl s_checks_cells))]) [1, 2] (by decide) rfl
            have hFc := va_free (wc := [(h1, .inr (7, [.int (5 : Int32), .int (3 : Int32), .ref h2, .int s_checks_size_9])), (h2, .inl (cI, 15, .inl s_checks_cells))]) hD hS hA [1, 2] rfl
            refine va_callv (va_runV (As := [.int r_9, .int (0 : Int32), .int x1]) (rest := []) ⟨hx, hb, hml, hown, hts⟩ (metX7_put (sz := H.size) hf) (cwV 3 hts gX5_addCheck_X7_put rfl rfl rfl ⟨rfl, kX7_put⟩ ⟨Nat.le_of_ble_eq_true rfl, Nat.le_of_ble_eq_true rfl⟩) ⟨PR.blind, va_recv hK hPc (ci := 7) (q0 := 0) rfl rfl, fun U hU hW => ⟨rfl, PR.go hU hW hPc hDc hK hN⟩⟩ rfl rfl hl.1 rfl (lv_room (Nat.le_of_ble_eq_true rfl)) dX5_addCheck_77 ⟨Nat.zero_le _, Nat.zero_le _⟩) hS (fun q _ h => hFc q h) hFc (fun u t H1 locs ht hvm hf hB hz1 hk1 hS => ?_)
            obtain ⟨s_checks_cells_11, rfl⟩ : ∃ z, z = u := ⟨_, rfl⟩
            have hP1 : va_P (dC, dI) vwCl [(h1, .inr (7, [.int (5 : Int32), .int (3 : Int32), .ref h2, .int s_checks_size_9])), (h2, .inl (cI, 15, .inl s_checks_cells_11))] H1 := by rw [← ht]; exact hB.1
            have hD1 : va_D (va_A [(h1, .inr (7, [.int (5 : Int32), .int (3 : Int32), .ref h2, .int s_checks_size_9])), (h2, .inl (cI, 15, .inl s_checks_cells))] H.size) [(h1, .inr (7, [.int (5 : Int32), .int (3 : Int32), .ref h2, .int s_checks_size_9])), (h2, .inl (cI, 15, .inl s_checks_cells_11))] := hB.2
            obtain ⟨hP, hD⟩ := jn (wr := [(h0, .inr (5, [.ref r_kinds, .ref r_passers, .ref r_beasts, .ref h1, .ref r_looks, .int s_high, .int s_low]))]) (ws' := [(h0, .inr (5, [.ref r_kinds, .ref r_passers, .ref r_beasts, .ref h1, .ref r_looks, .int s_high, .int s_low])), (h1, .inr (7, [.int (5 : Int32), .int (3 : Int32), .ref h2, .int s_checks_size_9])), (h2, .inl (cI, 15, .inl s_checks_cells_11))]) hP hD [1, 2] [0] rfl rfl (by decide) (by decide) hk1 hFc hP1 hD1 [0, 1, 2] (by decide) rfl
            clear hP1 hD1 hB hk1 hz1 hvm ht hPc hDc hFc
            generalize H1 = H at hP hS ⊢
            try dsimp only at hf
            refine lv_aload_n hx hb dX5_addCheck_80 rfl (lv_at hl 2 rfl) ?_
            refine va_get (D := (dC, dI)) (ci := 5) (v := .ref h1) (C := RX5) (T := TX5) (N := 7) hx hb hts iX5_addCheck_X5 hown hK hP 0 rfl rfl 3 (by decide) (hts _ mX5_addCheck_f23) (fun _ h9 => h9) rfl dX5_addCheck_81 ?_
            refine lv_iload hx hb dX5_addCheck_84 (lv_at hl 0 rfl) ?_
            refine lv_iconst (v := (1 : Int32)) hx hb dX5_addCheck_86 (by decide) ?_
            refine lv_iload_n hx hb dX5_addCheck_87 rfl (lv_at hl 4 rfl) ?_
            have hPc := hP.sub (ws' := [(h1, .inr (7, [.int (5 : Int32), .int (3 : Int32), .ref h2, .int s_checks_size_9])), (h2, .inl (cI, 15, .inl s_checks_cells_11))]) [1, 2] rfl
            have hDc := hD.sub (ws' := [(h1, .inr (7, [.int (5 : Int32), .int (3 : Int32), .ref h2, .int s_checks_size_9])), (h2, .inl (cI, 15, .inl s_checks_cells_11))]) [1, 2] (by decide) rfl
            have hFc := va_free (wc := [(h1, .inr (7, [.int (5 : Int32), .int (3 : Int32), .ref h2, .int s_checks_size_9])), (h2, .inl (cI, 15, .inl s_checks_cells_11))]) hD hS hA [1, 2] rfl
            refine va_callv (va_runV (As := [.int r_9, .int (1 : Int32), .int x2]) (rest := []) ⟨hx, hb, hml, hown, hts⟩ (metX7_put (sz := H.size) hf) (cwV 3 hts gX5_addCheck_X7_put rfl rfl rfl ⟨rfl, kX7_put⟩ ⟨Nat.le_of_ble_eq_true rfl, Nat.le_of_ble_eq_true rfl⟩) ⟨PR.blind, va_recv hK hPc (ci := 7) (q0 := 0) rfl rfl, fun U hU hW => ⟨rfl, PR.go hU hW hPc hDc hK hN⟩⟩ rfl rfl hl.1 rfl (lv_room (Nat.le_of_ble_eq_true rfl)) dX5_addCheck_88 ⟨Nat.zero_le _, Nat.zero_le _⟩) hS (fun q _ h => hFc q h) hFc (fun u t H1 locs ht hvm hf hB hz1 hk1 hS => ?_)
            obtain ⟨s_checks_cells_12, rfl⟩ : ∃ z, z = u := ⟨_, rfl⟩
            have hP1 : va_P (dC, dI) vwCl [(h1, .inr (7, [.int (5 : Int32), .int (3 : Int32), .ref h2, .int s_checks_size_9])), (h2, .inl (cI, 15, .inl s_checks_cells_12))] H1 := by rw [← ht]; exact hB.1
            have hD1 : va_D (va_A [(h1, .inr (7, [.int (5 : Int32), .int (3 : Int32), .ref h2, .int s_checks_size_9])), (h2, .inl (cI, 15, .inl s_checks_cells_11))] H.size) [(h1, .inr (7, [.int (5 : Int32), .int (3 : Int32), .ref h2, .int s_checks_size_9])), (h2, .inl (cI, 15, .inl s_checks_cells_12))] := hB.2
            obtain ⟨hP, hD⟩ := jn (wr := [(h0, .inr (5, [.ref r_kinds, .ref r_passers, .ref r_beasts, .ref h1, .ref r_looks, .int s_high, .int s_low]))]) (ws' := [(h0, .inr (5, [.ref r_kinds, .ref r_passers, .ref r_beasts, .ref h1, .ref r_looks, .int s_high, .int s_low])), (h1, .inr (7, [.int (5 : Int32), .int (3 : Int32), .ref h2, .int s_checks_size_9])), (h2, .inl (cI, 15, .inl s_checks_cells_12))]) hP hD [1, 2] [0] rfl rfl (by decide) (by decide) hk1 hFc hP1 hD1 [0, 1, 2] (by decide) rfl
            clear hP1 hD1 hB hk1 hz1 hvm ht hPc hDc hFc
            generalize H1 = H at hP hS ⊢
            try dsimp only at hf
            refine lv_aload_n hx hb dX5_addCheck_91 rfl (lv_at hl 2 rfl) ?_
            refine va_get (D := (dC, dI)) (ci := 5) (v := .ref h1) (C := RX5) (T := TX5) (N := 7) hx hb hts iX5_addCheck_X5 hown hK hP 0 rfl rfl 3 (by decide) (hts _ mX5_addCheck_f23) (fun _ h9 => h9) rfl dX5_addCheck_92 ?_
            refine lv_iload hx hb dX5_addCheck_95 (lv_at hl 0 rfl) ?_
            refine lv_iconst (v := (2 : Int32)) hx hb dX5_addCheck_97 (by decide) ?_
            refine lv_iload_n hx hb dX5_addCheck_98 rfl (lv_at hl 5 rfl) ?_
            have hPc := hP.sub (ws' := [(h1, .inr (7, [.int (5 : Int32), .int (3 : Int32), .ref h2, .int s_checks_size_9])), (h2, .inl (cI, 15, .inl s_checks_cells_12))]) [1, 2] rfl
            have hDc := hD.sub (ws' := [(h1, .inr (7, [.int (5 : Int32), .int (3 : Int32), .ref h2, .int s_checks_size_9])), (h2, .inl (cI, 15, .inl s_checks_cells_12))]) [1, 2] (by decide) rfl
            have hFc := va_free (wc := [(h1, .inr (7, [.int (5 : Int32), .int (3 : Int32), .ref h2, .int s_checks_size_9])), (h2, .inl (cI, 15, .inl s_checks_cells_12))]) hD hS hA [1, 2] rfl
            refine va_callv (va_runV (As := [.int r_9, .int (2 : Int32), .int x3]) (rest := []) ⟨hx, hb, hml, hown, hts⟩ (metX7_put (sz := H.size) hf) (cwV 3 hts gX5_addCheck_X7_put rfl rfl rfl ⟨rfl, kX7_put⟩ ⟨Nat.le_of_ble_eq_true rfl, Nat.le_of_ble_eq_true rfl⟩) ⟨PR.blind, va_recv hK hPc (ci := 7) (q0 := 0) rfl rfl, fun U hU hW => ⟨rfl, PR.go hU hW hPc hDc hK hN⟩⟩ rfl rfl hl.1 rfl (lv_room (Nat.le_of_ble_eq_true rfl)) dX5_addCheck_99 ⟨Nat.zero_le _, Nat.zero_le _⟩) hS (fun q _ h => hFc q h) hFc (fun u t H1 locs ht hvm hf hB hz1 hk1 hS => ?_)
            obtain ⟨s_checks_cells_13, rfl⟩ : ∃ z, z = u := ⟨_, rfl⟩
            have hP1 : va_P (dC, dI) vwCl [(h1, .inr (7, [.int (5 : Int32), .int (3 : Int32), .ref h2, .int s_checks_size_9])), (h2, .inl (cI, 15, .inl s_checks_cells_13))] H1 := by rw [← ht]; exact hB.1
            have hD1 : va_D (va_A [(h1, .inr (7, [.int (5 : Int32), .int (3 : Int32), .ref h2, .int s_checks_size_9])), (h2, .inl (cI, 15, .inl s_checks_cells_12))] H.size) [(h1, .inr (7, [.int (5 : Int32), .int (3 : Int32), .ref h2, .int s_checks_size_9])), (h2, .inl (cI, 15, .inl s_checks_cells_13))] := hB.2
            obtain ⟨hP, hD⟩ := jn (wr := [(h0, .inr (5, [.ref r_kinds, .ref r_passers, .ref r_beasts, .ref h1, .ref r_looks, .int s_high, .int s_low]))]) (ws' := [(h0, .inr (5, [.ref r_kinds, .ref r_passers, .ref r_beasts, .ref h1, .ref r_looks, .int s_high, .int s_low])), (h1, .inr (7, [.int (5 : Int32), .int (3 : Int32), .ref h2, .int s_checks_size_9])), (h2, .inl (cI, 15, .inl s_checks_cells_13))]) hP hD [1, 2] [0] rfl rfl (by decide) (by decide) hk1 hFc hP1 hD1 [0, 1, 2] (by decide) rfl
            clear hP1 hD1 hB hk1 hz1 hvm ht hPc hDc hFc
            generalize H1 = H at hP hS ⊢
            try dsimp only at hf
            refine lv_iload hx hb dX5_addCheck_102 (lv_at hl 0 rfl) ?_
            exact W.iret (v := r_9) hx hb hr (fun t ht hW => ⟨⟨r_9, (s_checks_size_9, s_checks_cells_13), rfl, hf, by rw [ht]; exact hP, hD⟩, hS.F ht⟩) hS.2.2 dX5_addCheck_104
        · replace hf := hf.2 c_8
          refine lv_bipush (v := (-2 : Int32)) hx hb dX5_addCheck_50 (by decide) ?_
          exact W.iret (v := (-2 : Int32)) hx hb hr (fun t ht hW => ⟨⟨(-2 : Int32), (s_checks_size, s_checks_cells), rfl, hf, by rw [ht]; exact hP, hD⟩, hS.F ht⟩) hS.2.2 dX5_addCheck_52
set_option maxHeartbeats 4000000 in
set_option maxRecDepth 100000 in
theorem wX5_addCheck_23 {p : Program} {e : Env} {s : State} {m : MethodId} {args : Array Value} {below : List Frame} {meth : Method} {c : Code} (C : CX p s m args meth c cX5_addCheck 6 wsX5_addCheck RX5 (some .int)) (hK : va_K (dC, dI) vwCl (TYS cI cL cB cZ cT cR) s) (hN : NW s) {A : Nat → Prop} (hA : ∀ q : Nat, s.heap.size ≤ q → A q) {h0 r_kinds r_passers r_beasts r_looks h1 h2 : Nat} {s_high s_low : Int32} {k : Int32 → Int32 → (Nat → Int32) → Prop} : ∀ (x1 : Int32) (x2 : Int32) (x3 : Int32) (s_checks_size : Int32) (s_checks_cells : Nat → Int32) (H : Heap) (locs : List Loc) (ls : Array Slot), va_P (dC, dI) vwCl [(h0, .inr (5, [.ref r_kinds, .ref r_passers, .ref r_beasts, .ref h1, .ref r_looks, .int s_high, .int s_low])), (h1, .inr (7, [.int (5 : Int32), .int (3 : Int32), .ref h2, .int s_checks_size])), (h2, .inl (cI, 15, .inl s_checks_cells))] H → va_D A [(h0, .inr (5, [.ref r_kinds, .ref r_passers, .ref r_beasts, .ref h1, .ref r_looks, .int s_high, .int s_low])), (h1, .inr (7, [.int (5 : Int32), .int (3 : Int32), .ref h2, .int s_checks_size])), (h2, .inl (cI, 15, .inl s_checks_cells))] → va_S A s.heap H locs → lv_has ls 6 [(0, .ref h0), (1, .int x1), (2, .int x2), (3, .int x3)] → pX5_addCheck_23 k x1 x2 x3 s_checks_size s_checks_cells → W p l e ({ frames := 2, cells := 0, slots := 0, locals := 44 } : Room) s m args below meth c H locs 0 0 (MQ below (va_Qi (fun (r : Int32) (u : Int32 × (Nat → Int32)) => k r u.1 u.2) (fun (u : Int32 × (Nat → Int32)) t => va_P (dC, dI) vwCl [(h0, .inr (5, [.ref r_kinds, .ref r_passers, .ref r_beasts, .ref h1, .ref r_looks, .int s_high, .int s_low])), (h1, .inr (7, [.int (5 : Int32), .int (3 : Int32), .ref h2, .int u.1])), (h2, .inl (cI, 15, .inl u.2))] t.heap ∧ va_D A [(h0, .inr (5, [.ref r_kinds, .ref r_passers, .ref r_beasts, .ref h1, .ref r_looks, .int s_high, .int s_low])), (h1, .inr (7, [.int (5 : Int32), .int (3 : Int32), .ref h2, .int u.1])), (h2, .inl (cI, 15, .inl u.2))]) A) args s 0 0 A) (F0 m 23 ls []) := by
  obtain ⟨hx, hb, hml, hown, hts, hr, hlocks⟩ := id C
  intro x1 x2 x3 s_checks_size s_checks_cells H locs ls hP hD hS hl hf
  unfold pX5_addCheck_23 at hf
  refine lv_iconst (v := (0 : Int32)) hx hb dX5_addCheck_23 (by decide) ?_
  exact wX5_addCheck_24 C hK hN hA x1 x2 x3 (0 : Int32) s_checks_size s_checks_cells H locs ls hP hD hS (lv_sub hl [0, 1, 2, 3] rfl) hf
set_option maxHeartbeats 4000000 in
set_option maxRecDepth 100000 in
theorem metX5_addCheck {h0 r_kinds r_passers r_beasts r_looks h1 h2 : Nat} {s_high s_low s_checks_size : Int32} {s_checks_cells : Nat → Int32} {a1 : Int32} {a2 : Int32} {a3 : Int32} {sz : Nat} {k : Int32 → Int32 → (Nat → Int32) → Prop} (hf : pX5_addCheck s_checks_size s_checks_cells a1 a2 a3 k) : Met l yX5_addCheck wsX5_addCheck ({ frames := 2, cells := 0, slots := 0, locals := 44 } : Room) (va_Pc [.ref h0, .int a1, .int a2, .int a3] (PR dC dI (TYS cI cL cB cZ cT cR) [(h0, .inr (5, [.ref r_kinds, .ref r_passers, .ref r_beasts, .ref h1, .ref r_looks, .int s_high, .int s_low])), (h1, .inr (7, [.int (5 : Int32), .int (3 : Int32), .ref h2, .int s_checks_size])), (h2, .inl (cI, 15, .inl s_checks_cells))] sz)) (va_Qi (fun (r : Int32) (u : Int32 × (Nat → Int32)) => k r u.1 u.2) (fun (u : Int32 × (Nat → Int32)) t => va_P (dC, dI) vwCl [(h0, .inr (5, [.ref r_kinds, .ref r_passers, .ref r_beasts, .ref h1, .ref r_looks, .int s_high, .int s_low])), (h1, .inr (7, [.int (5 : Int32), .int (3 : Int32), .ref h2, .int u.1])), (h2, .inl (cI, 15, .inl u.2))] t.heap ∧ va_D (va_A [(h0, .inr (5, [.ref r_kinds, .ref r_passers, .ref r_beasts, .ref h1, .ref r_looks, .int s_high, .int s_low])), (h1, .inr (7, [.int (5 : Int32), .int (3 : Int32), .ref h2, .int s_checks_size])), (h2, .inl (cI, 15, .inl s_checks_cells))] sz) [(h0, .inr (5, [.ref r_kinds, .ref r_passers, .ref r_beasts, .ref h1, .ref r_looks, .int s_high, .int s_low])), (h1, .inr (7, [.int (5 : Int32), .int (3 : Int32), .ref h2, .int u.1])), (h2, .inl (cI, 15, .inl u.2))]) (va_A [(h0, .inr (5, [.ref r_kinds, .ref r_passers, .ref r_beasts, .ref h1, .ref r_looks, .int s_high, .int s_low])), (h1, .inr (7, [.int (5 : Int32), .int (3 : Int32), .ref h2, .int s_checks_size])), (h2, .inl (cI, 15, .inl s_checks_cells))] sz)) 0 0 (va_A [(h0, .inr (5, [.ref r_kinds, .ref r_passers, .ref r_beasts, .ref h1, .ref r_looks, .int s_high, .int s_low])), (h1, .inr (7, [.int (5 : Int32), .int (3 : Int32), .ref h2, .int s_checks_size])), (h2, .inl (cI, 15, .inl s_checks_cells))] sz) := by
  refine Met.ofW (cc := cX5_addCheck) (maxL := 6) (ret := (some .int)) (by decide) rfl ?_
  intro p e s m args below meth c s₁ B hml hv
  obtain ⟨rfl, hsz, hP, hK, hN, hD0⟩ := hv
  have C : CX p s m _ meth c cX5_addCheck 6 wsX5_addCheck RX5 (some .int) := ⟨B.exec, B.bytes, hml, findClass_of_methodNamed B.named, atoms_spec (ws := wsX5_addCheck) B.pre, B.returns, B.notSynchronized⟩
  obtain ⟨hx, hb, -, hown, hts, hr, hlocks⟩ := id C
  subst hsz
  have hD := hD0.self (sz := s.heap.size)
  generalize hAe : va_A [(h0, .inr (5, [.ref r_kinds, .ref r_passers, .ref r_beasts, .ref h1, .ref r_looks, .int s_high, .int s_low])), (h1, .inr (7, [.int (5 : Int32), .int (3 : Int32), .ref h2, .int s_checks_size])), (h2, .inl (cI, 15, .inl s_checks_cells))] s.heap.size = A at hD ⊢
  have hA : ∀ q : Nat, s.heap.size ≤ q → A q := fun q h => by rw [← hAe]; exact Or.inr h
  have hS : va_S A s.heap s.heap [] := va_S.rf
  have hl := lv_entry ([.ref h0, .int a1, .int a2, .int a3]) (n := 6) (Nat.le_of_ble_eq_true rfl)
  rw [lg_entry_eq]
  generalize (lg_sl ([.ref h0, .int a1, .int a2, .int a3]) ++ List.replicate (6 - (lg_sl ([.ref h0, .int a1, .int a2, .int a3])).length) Slot.unset).toArray = ls at hl ⊢
  have hl : lv_has ls 6 [(0, .ref h0), (1, .int a1), (2, .int a2), (3, .int a3)] := hl
  unfold pX5_addCheck at hf
  obtain ⟨H, hH⟩ : ∃ H, H = s.heap := ⟨_, rfl⟩
  obtain ⟨locs, hlo⟩ : ∃ L : List Loc, L = [] := ⟨_, rfl⟩
  have hS : va_S A s.heap H locs := by rw [hH, hlo]; exact hS
  rw [← hH] at hP
  have hG : W p l e ({ frames := 2, cells := 0, slots := 0, locals := 44 } : Room) s m [.ref h0, .int a1, .int a2, .int a3].toArray below meth c H locs 0 0 (MQ below (va_Qi (fun (r : Int32) (u : Int32 × (Nat → Int32)) => k r u.1 u.2) (fun (u : Int32 × (Nat → Int32)) t => va_P (dC, dI) vwCl [(h0, .inr (5, [.ref r_kinds, .ref r_passers, .ref r_beasts, .ref h1, .ref r_looks, .int s_high, .int s_low])), (h1, .inr (7, [.int (5 : Int32), .int (3 : Int32), .ref h2, .int u.1])), (h2, .inl (cI, 15, .inl u.2))] t.heap ∧ va_D A [(h0, .inr (5, [.ref r_kinds, .ref r_passers, .ref r_beasts, .ref h1, .ref r_looks, .int s_high, .int s_low])), (h1, .inr (7, [.int (5 : Int32), .int (3 : Int32), .ref h2, .int u.1])), (h2, .inl (cI, 15, .inl u.2))]) A) [.ref h0, .int a1, .int a2, .int a3].toArray s 0 0 A) (F0 m 0 ls []) := by
    clear hlo hH hD0
    refine lv_iload_n hx hb dX5_addCheck_0 rfl (lv_at hl 1 rfl) ?_
    have hPc := hP.sub (ws' := []) [] rfl
    refine ro_calli (va_runSN (As := [.int a1]) (rest := []) ⟨hx, hb, hml, hown, hts⟩ (metX11_isMinute hf) ⟨va_cnB 1 hts gX5_addCheck_X11_isMinute_n51 rfl rfl rfl (hN _ nwm_1) (hts _ mX5_addCheck_iX11) kX11_isMinute ⟨Nat.le_of_ble_eq_true rfl, Nat.le_of_ble_eq_true rfl⟩, hts _ mX5_addCheck_sX11_isMinute, trivial⟩ ⟨PW.blind, fun U hU hW => ⟨rfl, PW.go hU hW hPc hK hN⟩⟩ rfl rfl hl.1 rfl (lv_room (Nat.le_of_ble_eq_true rfl)) dX5_addCheck_1 ⟨Nat.zero_le _, Nat.zero_le _⟩) (fun r_1 hf => ?_)
    refine lv_if_eq (tgt := 23) hx hb dX5_addCheck_4 (by decide) (fun c_2 => ?_) (fun c_2 => ?_)
    · replace hf := hf.1 c_2
      exact wX5_addCheck_23 C hK hN hA a1 a2 a3 s_checks_size s_checks_cells H locs ls hP hD hS (lv_sub hl [0, 1, 2, 3] rfl) hf
    · replace hf := hf.2 c_2
      refine lv_iload_n hx hb dX5_addCheck_7 rfl (lv_at hl 1 rfl) ?_
      refine lv_aload_n hx hb dX5_addCheck_8 rfl (lv_at hl 0 rfl) ?_
      refine va_get (D := (dC, dI)) (ci := 5) (v := .ref h1) (C := RX5) (T := TX5) (N := 7) hx hb hts iX5_addCheck_X5 hown hK hP 0 rfl rfl 3 (by decide) (hts _ mX5_addCheck_f23) (fun _ h9 => h9) rfl dX5_addCheck_9 ?_
      refine lv_iconst (v := (0 : Int32)) hx hb dX5_addCheck_12 (by decide) ?_
      have hPc := hP.sub (ws' := [(h1, .inr (7, [.int (5 : Int32), .int (3 : Int32), .ref h2, .int s_checks_size])), (h2, .inl (cI, 15, .inl s_checks_cells))]) [1, 2] rfl
      refine ro_calli (va_runV (As := [.int (0 : Int32)]) (rest := [.int a1]) ⟨hx, hb, hml, hown, hts⟩ (metX7_lastAt hf) (cwV 1 hts gX5_addCheck_X7_lastAt rfl rfl rfl ⟨rfl, kX7_lastAt⟩ ⟨Nat.le_of_ble_eq_true rfl, Nat.le_of_ble_eq_true rfl⟩) ⟨PW.blind, va_recv hK hPc (ci := 7) (q0 := 0) rfl rfl, fun U hU hW => ⟨rfl, PW.go hU hW hPc hK hN⟩⟩ rfl rfl hl.1 rfl (lv_room (Nat.le_of_ble_eq_true rfl)) dX5_addCheck_13 ⟨Nat.zero_le _, Nat.zero_le _⟩) (fun r_14 hf => ?_)
      refine lv_icmp_le (tgt := 23) hx hb dX5_addCheck_16 (by decide) (fun c_15 => ?_) (fun c_15 => ?_)
      · replace hf := hf.1 c_15
        exact wX5_addCheck_23 C hK hN hA a1 a2 a3 s_checks_size s_checks_cells H locs ls hP hD hS (lv_sub hl [0, 1, 2, 3] rfl) hf
      · replace hf := hf.2 c_15
        refine lv_iconst (v := (1 : Int32)) hx hb dX5_addCheck_19 (by decide) ?_
        refine lv_goto (tgt := 24) hx hb dX5_addCheck_20 (by decide) ?_
        exact wX5_addCheck_24 C hK hN hA a1 a2 a3 (1 : Int32) s_checks_size s_checks_cells H locs ls hP hD hS (lv_sub hl [0, 1, 2, 3] rfl) hf
  rw [hH, hlo] at hG
  exact hG
set_option maxHeartbeats 4000000 in
set_option maxRecDepth 100000 in
theorem wX5_addLook_24 {p : Program} {e : Env} {s : State} {m : MethodId} {args : Array Value} {below : List Frame} {meth : Method} {c : Code} (C : CX p s m args meth c cX5_addLook 5 wsX5_addLook RX5 (some .int)) (hK : va_K (dC, dI) vwCl (TYS cI cL cB cZ cT cR) s) (hN : NW s) {A : Nat → Prop} (hA : ∀ q : Nat, s.heap.size ≤ q → A q) {h0 r_kinds r_passers r_beasts r_checks h1 h2 : Nat} {s_high s_low : Int32} {k : Int32 → Int32 → (Nat → Int32) → Prop} : ∀ (x1 : Int32) (x2 : Int32) (y0 : Int32) (s_looks_size : Int32) (s_looks_cells : Nat → Int32) (H : Heap) (locs : List Loc) (ls : Array Slot), va_P (dC, dI) vwCl [(h0, .inr (5, [.ref r_kinds, .ref r_passers, .ref r_beasts, .ref r_checks, .ref h1, .int s_high, .int s_low])), (h1, .inr (7, [.int (6 : Int32), .int (2 : Int32), .ref h2, .int s_looks_size])), (h2, .inl (cI, 12, .inl s_looks_cells))] H → va_D A [(h0, .inr (5, [.ref r_kinds, .ref r_passers, .ref r_beasts, .ref r_checks, .ref h1, .int s_high, .int s_low])), (h1, .inr (7, [.int (6 : Int32), .int (2 : Int32), .ref h2, .int s_looks_size])), (h2, .inl (cI, 12, .inl s_looks_cells))] → va_S A s.heap H locs → lv_has ls 5 [(0, .ref h0), (1, .int x1), (2, .int x2)] → pX5_addLook_24 k x1 x2 y0 s_looks_size s_looks_cells → W p l e ({ frames := 2, cells := 0, slots := 0, locals := 44 } : Room) s m args below meth c H locs 0 0 (MQ below (va_Qi (fun (r : Int32) (u : Int32 × (Nat → Int32)) => k r u.1 u.2) (fun (u : Int32 × (Nat → Int32)) t => va_P (dC, dI) vwCl [(h0, .inr (5, [.ref r_kinds, .ref r_passers, .ref r_beasts, .ref r_checks, .ref h1, .int s_high, .int s_low])), (h1, .inr (7, [.int (6 : Int32), .int (2 : Int32), .ref h2, .int u.1])), (h2, .inl (cI, 12, .inl u.2))] t.heap ∧ va_D A [(h0, .inr (5, [.ref r_kinds, .ref r_passers, .ref r_beasts, .ref r_checks, .ref h1, .int s_high, .int s_low])), (h1, .inr (7, [.int (6 : Int32), .int (2 : Int32), .ref h2, .int u.1])), (h2, .inl (cI, 12, .inl u.2))]) A) args s 0 0 A) (F0 m 24 ls [.int y0]) := by
  obtain ⟨hx, hb, hml, hown, hts, hr, hlocks⟩ := id C
  intro x1 x2 y0 s_looks_size s_looks_cells H locs ls hP hD hS hl hf
  unfold pX5_addLook_24 at hf
  refine lv_istore_n (lv' := [(3, .int y0), (0, .ref h0), (1, .int x1), (2, .int x2)]) hx hb dX5_addLook_24 rfl hl (by decide) rfl (fun ls hl => ?_)
  refine lv_iload_n hx hb dX5_addLook_25 rfl (lv_at hl 0 rfl) ?_
  refine lv_if_eq (tgt := 36) hx hb dX5_addLook_26 (by decide) (fun c_3 => ?_) (fun c_3 => ?_)
  · replace hf := hf.1 c_3
    refine lv_bipush (v := (-2 : Int32)) hx hb dX5_addLook_36 (by decide) ?_
    exact W.iret (v := (-2 : Int32)) hx hb hr (fun t ht hW => ⟨⟨(-2 : Int32), (s_looks_size, s_looks_cells), rfl, hf, by rw [ht]; exact hP, hD⟩, hS.F ht⟩) hS.2.2 dX5_addLook_38
  · replace hf := hf.2 c_3
    refine lv_iload_n hx hb dX5_addLook_29 rfl (lv_at hl 3 rfl) ?_
    have hPc := hP.sub (ws' := []) [] rfl
    refine ro_calli (va_runSN (As := [.int x2]) (rest := []) ⟨hx, hb, hml, hown, hts⟩ (metX11_isHigh hf) ⟨va_cnB 1 hts gX5_addLook_X11_isHigh_n47 rfl rfl rfl (hN _ nwm_0) (hts _ mX5_addLook_iX11) kX11_isHigh ⟨Nat.le_of_ble_eq_true rfl, Nat.le_of_ble_eq_true rfl⟩, hts _ mX5_addLook_sX11_isHigh, trivial⟩ ⟨PW.blind, fun U hU hW => ⟨rfl, PW.go hU hW hPc hK hN⟩⟩ rfl rfl hl.1 rfl (lv_room (Nat.le_of_ble_eq_true rfl)) dX5_addLook_30 ⟨Nat.zero_le _, Nat.zero_le _⟩) (fun r_4 hf => ?_)
    refine lv_if_ne (tgt := 39) hx hb dX5_addLook_33 (by decide) (fun c_5 => ?_) (fun c_5 => ?_)
    · replace hf := hf.2 c_5
      refine lv_aload_n hx hb dX5_addLook_39 rfl (lv_at hl 1 rfl) ?_
      refine va_get (D := (dC, dI)) (ci := 5) (v := .ref h1) (C := RX5) (T := TX5) (N := 7) hx hb hts iX5_addLook_X5 hown hK hP 0 rfl rfl 4 (by decide) (hts _ mX5_addLook_f26) (fun _ h9 => h9) rfl dX5_addLook_40 ?_
      have hPc := hP.sub (ws' := [(h1, .inr (7, [.int (6 : Int32), .int (2 : Int32), .ref h2, .int s_looks_size]))]) [1] rfl
      have hDc := hD.sub (ws' := [(h1, .inr (7, [.int (6 : Int32), .int (2 : Int32), .ref h2, .int s_looks_size]))]) [1] (by decide) rfl
      have hFc := va_free (wc := [(h1, .inr (7, [.int (6 : Int32), .int (2 : Int32), .ref h2, .int s_looks_size]))]) hD hS hA [1] rfl
      refine va_calli (va_runV (As := []) (rest := []) ⟨hx, hb, hml, hown, hts⟩ (metX7_open (sz := H.size) hf) (cwV 0 hts gX5_addLook_X7_open rfl rfl rfl ⟨rfl, kX7_open⟩ ⟨Nat.le_of_ble_eq_true rfl, Nat.le_of_ble_eq_true rfl⟩) ⟨PR.blind, va_recv hK hPc (ci := 7) (q0 := 0) rfl rfl, fun U hU hW => ⟨rfl, PR.go hU hW hPc hDc hK hN⟩⟩ rfl rfl hl.1 rfl (lv_room (Nat.le_of_ble_eq_true rfl)) dX5_addLook_43 ⟨Nat.zero_le _, Nat.zero_le _⟩) hS (fun q _ h => hFc q h) hFc (fun r_6 u t H1 locs ht hvm hf hB hz1 hk1 hS => ?_)
      obtain ⟨s_looks_size_6, rfl⟩ : ∃ z, z = u := ⟨_, rfl⟩
      have hP1 : va_P (dC, dI) vwCl [(h1, .inr (7, [.int (6 : Int32), .int (2 : Int32), .ref h2, .int s_looks_size_6]))] H1 := by rw [← ht]; exact hB.1
      have hD1 : va_D (va_A [(h1, .inr (7, [.int (6 : Int32), .int (2 : Int32), .ref h2, .int s_looks_size]))] H.size) [(h1, .inr (7, [.int (6 : Int32), .int (2 : Int32), .ref h2, .int s_looks_size_6]))] := hB.2
      obtain ⟨hP, hD⟩ := jn (wr := [(h0, .inr (5, [.ref r_kinds, .ref r_passers, .ref r_beasts, .ref r_checks, .ref h1, .int s_high, .int s_low])), (h2, .inl (cI, 12, .inl s_looks_cells))]) (ws' := [(h0, .inr (5, [.ref r_kinds, .ref r_passers, .ref r_beasts, .ref r_checks, .ref h1, .int s_high, .int s_low])), (h1, .inr (7, [.int (6 : Int32), .int (2 : Int32), .ref h2, .int s_looks_size_6])), (h2, .inl (cI, 12, .inl s_looks_cells))]) hP hD [1] [0, 2] rfl rfl (by decide) (by decide) hk1 hFc hP1 hD1 [0, 2, 1] (by decide) rfl
      clear hP1 hD1 hB hk1 hz1 hvm ht hPc hDc hFc
      generalize H1 = H at hP hS ⊢
      try dsimp only at hf
      refine lv_istore (lv' := [(4, .int r_6), (3, .int y0), (0, .ref h0), (1, .int x1), (2, .int x2)]) hx hb dX5_addLook_46 hl (by decide) rfl (fun ls hl => ?_)
      refine lv_iload hx hb dX5_addLook_48 (lv_at hl 0 rfl) ?_
      refine lv_bipush (v := (-4 : Int32)) hx hb dX5_addLook_50 (by decide) ?_
      refine lv_icmp_eq (tgt := 77) hx hb dX5_addLook_52 (by decide) (fun c_7 => ?_) (fun c_7 => ?_)
      · replace hf := hf.1 c_7
        refine lv_iload hx hb dX5_addLook_77 (lv_at hl 0 rfl) ?_
        exact W.iret (v := r_6) hx hb hr (fun t ht hW => ⟨⟨r_6, (s_looks_size_6, s_looks_cells), rfl, hf, by rw [ht]; exact hP, hD⟩, hS.F ht⟩) hS.2.2 dX5_addLook_79
      · replace hf := hf.2 c_7
        refine lv_aload_n hx hb dX5_addLook_55 rfl (lv_at hl 2 rfl) ?_
        refine va_get (D := (dC, dI)) (ci := 5) (v := .ref h1) (C := RX5) (T := TX5) (N := 7) hx hb hts iX5_addLook_X5 hown hK hP 0 rfl rfl 4 (by decide) (hts _ mX5_addLook_f26) (fun _ h9 => h9) rfl dX5_addLook_56 ?_
        refine lv_iload hx hb dX5_addLook_59 (lv_at hl 0 rfl) ?_
        refine lv_iconst (v := (0 : Int32)) hx hb dX5_addLook_61 (by decide) ?_
        refine lv_iload_n hx hb dX5_addLook_62 rfl (lv_at hl 3 rfl) ?_
        have hPc := hP.sub (ws' := [(h1, .inr (7, [.int (6 : Int32), .int (2 : Int32), .ref h2, .int s_looks_size_6])), (h2, .inl (cI, 12, .inl s_looks_cells))]) [1, 2] rfl
        have hDc := hD.sub (ws' := [(h1, .inr (7, [.int (6 : Int32), .int (2 : Int32), .ref h2, .int s_looks_size_6])), (h2, .inl (cI, 12, .inl s_looks_cells))]) [1, 2] (by decide) rfl
        have hFc := va_free (wc := [(h1, .inr (7, [.int (6 : Int32), .int (2 : Int32), .ref h2, .int s_looks_size_6])), (h2, .inl (cI, 12, .inl s_looks_cells))]) hD hS hA [1, 2] rfl
        refine va_callv (va_runV (As := [.int r_6, .int (0 : Int32), .int x1]) (rest := []) ⟨hx, hb, hml, hown, hts⟩ (metX7_put (sz := H.size) hf) (cwV 3 hts gX5_addLook_X7_put rfl rfl rfl ⟨rfl, kX7_put⟩ ⟨Nat.le_of_ble_eq_true rfl, Nat.le_of_ble_eq_true rfl⟩) ⟨PR.blind, va_recv hK hPc (ci := 7) (q0 := 0) rfl rfl, fun U hU hW => ⟨rfl, PR.go hU hW hPc hDc hK hN⟩⟩ rfl rfl hl.1 rfl (lv_room (Nat.le_of_ble_eq_true rfl)) dX5_addLook_63 ⟨Nat.zero_le _, Nat.zero_le _⟩) hS (fun q _ h => hFc q h) hFc (fun u t H1 locs ht hvm hf hB hz1 hk1 hS => ?_)
        obtain ⟨s_looks_cells_8, rfl⟩ : ∃ z, z = u := ⟨_, rfl⟩
        have hP1 : va_P (dC, dI) vwCl [(h1, .inr (7, [.int (6 : Int32), .int (2 : Int32), .ref h2, .int s_looks_size_6])), (h2, .inl (cI, 12, .inl s_looks_cells_8))] H1 := by rw [← ht]; exact hB.1
        have hD1 : va_D (va_A [(h1, .inr (7, [.int (6 : Int32), .int (2 : Int32), .ref h2, .int s_looks_size_6])), (h2, .inl (cI, 12, .inl s_looks_cells))] H.size) [(h1, .inr (7, [.int (6 : Int32), .int (2 : Int32), .ref h2, .int s_looks_size_6])), (h2, .inl (cI, 12, .inl s_looks_cells_8))] := hB.2
        obtain ⟨hP, hD⟩ := jn (wr := [(h0, .inr (5, [.ref r_kinds, .ref r_passers, .ref r_beasts, .ref r_checks, .ref h1, .int s_high, .int s_low]))]) (ws' := [(h0, .inr (5, [.ref r_kinds, .ref r_passers, .ref r_beasts, .ref r_checks, .ref h1, .int s_high, .int s_low])), (h1, .inr (7, [.int (6 : Int32), .int (2 : Int32), .ref h2, .int s_looks_size_6])), (h2, .inl (cI, 12, .inl s_looks_cells_8))]) hP hD [1, 2] [0] rfl rfl (by decide) (by decide) hk1 hFc hP1 hD1 [0, 1, 2] (by decide) rfl
        clear hP1 hD1 hB hk1 hz1 hvm ht hPc hDc hFc
        generalize H1 = H at hP hS ⊢
        try dsimp only at hf
        refine lv_aload_n hx hb dX5_addLook_66 rfl (lv_at hl 2 rfl) ?_
        refine va_get (D := (dC, dI)) (ci := 5) (v := .ref h1) (C := RX5) (T := TX5) (N := 7) hx hb hts iX5_addLook_X5 hown hK hP 0 rfl rfl 4 (by decide) (hts _ mX5_addLook_f26) (fun _ h9 => h9) rfl dX5_addLook_67 ?_
        refine lv_iload hx hb dX5_addLook_70 (lv_at hl 0 rfl) ?_
        refine lv_iconst (v := (1 : Int32)) hx hb dX5_addLook_72 (by decide) ?_
        refine lv_iload_n hx hb dX5_addLook_73 rfl (lv_at hl 4 rfl) ?_
        have hPc := hP.sub (ws' := [(h1, .inr (7, [.int (6 : Int32), .int (2 : Int32), .ref h2, .int s_looks_size_6])), (h2, .inl (cI, 12, .inl s_looks_cells_8))]) [1, 2] rfl
        have hDc := hD.sub (ws' := [(h1, .inr (7, [.int (6 : Int32), .int (2 : Int32), .ref h2, .int s_looks_size_6])), (h2, .inl (cI, 12, .inl s_looks_cells_8))]) [1, 2] (by decide) rfl
        have hFc := va_free (wc := [(h1, .inr (7, [.int (6 : Int32), .int (2 : Int32), .ref h2, .int s_looks_size_6])), (h2, .inl (cI, 12, .inl s_looks_cells_8))]) hD hS hA [1, 2] rfl
        refine va_callv (va_runV (As := [.int r_6, .int (1 : Int32), .int x2]) (rest := []) ⟨hx, hb, hml, hown, hts⟩ (metX7_put (sz := H.size) hf) (cwV 3 hts gX5_addLook_X7_put rfl rfl rfl ⟨rfl, kX7_put⟩ ⟨Nat.le_of_ble_eq_true rfl, Nat.le_of_ble_eq_true rfl⟩) ⟨PR.blind, va_recv hK hPc (ci := 7) (q0 := 0) rfl rfl, fun U hU hW => ⟨rfl, PR.go hU hW hPc hDc hK hN⟩⟩ rfl rfl hl.1 rfl (lv_room (Nat.le_of_ble_eq_true rfl)) dX5_addLook_74 ⟨Nat.zero_le _, Nat.zero_le _⟩) hS (fun q _ h => hFc q h) hFc (fun u t H1 locs ht hvm hf hB hz1 hk1 hS => ?_)
        obtain ⟨s_looks_cells_9, rfl⟩ : ∃ z, z = u := ⟨_, rfl⟩
        have hP1 : va_P (dC, dI) vwCl [(h1, .inr (7, [.int (6 : Int32), .int (2 : Int32), .ref h2, .int s_looks_size_6])), (h2, .inl (cI, 12, .inl s_looks_cells_9))] H1 := by rw [← ht]; exact hB.1
        have hD1 : va_D (va_A [(h1, .inr (7, [.int (6 : Int32), .int (2 : Int32), .ref h2, .int s_looks_size_6])), (h2, .inl (cI, 12, .inl s_looks_cells_8))] H.size) [(h1, .inr (7, [.int (6 : Int32), .int (2 : Int32), .ref h2, .int s_looks_size_6])), (h2, .inl (cI, 12, .inl s_looks_cells_9))] := hB.2
        obtain ⟨hP, hD⟩ := jn (wr := [(h0, .inr (5, [.ref r_kinds, .ref r_passers, .ref r_beasts, .ref r_checks, .ref h1, .int s_high, .int s_low]))]) (ws' := [(h0, .inr (5, [.ref r_kinds, .ref r_passers, .ref r_beasts, .ref r_checks, .ref h1, .int s_high, .int s_low])), (h1, .inr (7, [.int (6 : Int32), .int (2 : Int32), .ref h2, .int s_looks_size_6])), (h2, .inl (cI, 12, .inl s_looks_cells_9))]) hP hD [1, 2] [0] rfl rfl (by decide) (by decide) hk1 hFc hP1 hD1 [0, 1, 2] (by decide) rfl
        clear hP1 hD1 hB hk1 hz1 hvm ht hPc hDc hFc
        generalize H1 = H at hP hS ⊢
        try dsimp only at hf
        refine lv_iload hx hb dX5_addLook_77 (lv_at hl 0 rfl) ?_
        exact W.iret (v := r_6) hx hb hr (fun t ht hW => ⟨⟨r_6, (s_looks_size_6, s_looks_cells_9), rfl, hf, by rw [ht]; exact hP, hD⟩, hS.F ht⟩) hS.2.2 dX5_addLook_79
    · replace hf := hf.1 c_5
      refine lv_bipush (v := (-2 : Int32)) hx hb dX5_addLook_36 (by decide) ?_
      exact W.iret (v := (-2 : Int32)) hx hb hr (fun t ht hW => ⟨⟨(-2 : Int32), (s_looks_size, s_looks_cells), rfl, hf, by rw [ht]; exact hP, hD⟩, hS.F ht⟩) hS.2.2 dX5_addLook_38
set_option maxHeartbeats 4000000 in
set_option maxRecDepth 100000 in
theorem wX5_addLook_23 {p : Program} {e : Env} {s : State} {m : MethodId} {args : Array Value} {below : List Frame} {meth : Method} {c : Code} (C : CX p s m args meth c cX5_addLook 5 wsX5_addLook RX5 (some .int)) (hK : va_K (dC, dI) vwCl (TYS cI cL cB cZ cT cR) s) (hN : NW s) {A : Nat → Prop} (hA : ∀ q : Nat, s.heap.size ≤ q → A q) {h0 r_kinds r_passers r_beasts r_checks h1 h2 : Nat} {s_high s_low : Int32} {k : Int32 → Int32 → (Nat → Int32) → Prop} : ∀ (x1 : Int32) (x2 : Int32) (s_looks_size : Int32) (s_looks_cells : Nat → Int32) (H : Heap) (locs : List Loc) (ls : Array Slot), va_P (dC, dI) vwCl [(h0, .inr (5, [.ref r_kinds, .ref r_passers, .ref r_beasts, .ref r_checks, .ref h1, .int s_high, .int s_low])), (h1, .inr (7, [.int (6 : Int32), .int (2 : Int32), .ref h2, .int s_looks_size])), (h2, .inl (cI, 12, .inl s_looks_cells))] H → va_D A [(h0, .inr (5, [.ref r_kinds, .ref r_passers, .ref r_beasts, .ref r_checks, .ref h1, .int s_high, .int s_low])), (h1, .inr (7, [.int (6 : Int32), .int (2 : Int32), .ref h2, .int s_looks_size])), (h2, .inl (cI, 12, .inl s_looks_cells))] → va_S A s.heap H locs → lv_has ls 5 [(0, .ref h0), (1, .int x1), (2, .int x2)] → pX5_addLook_23 k x1 x2 s_looks_size s_looks_cells → W p l e ({ frames := 2, cells := 0, slots := 0, locals := 44 } : Room) s m args below meth c H locs 0 0 (MQ below (va_Qi (fun (r : Int32) (u : Int32 × (Nat → Int32)) => k r u.1 u.2) (fun (u : Int32 × (Nat → Int32)) t => va_P (dC, dI) vwCl [(h0, .inr (5, [.ref r_kinds, .ref r_passers, .ref r_beasts, .ref r_checks, .ref h1, .int s_high, .int s_low])), (h1, .inr (7, [.int (6 : Int32), .int (2 : Int32), .ref h2, .int u.1])), (h2, .inl (cI, 12, .inl u.2))] t.heap ∧ va_D A [(h0, .inr (5, [.ref r_kinds, .ref r_passers, .ref r_beasts, .ref r_checks, .ref h1, .int s_high, .int s_low])), (h1, .inr (7, [.int (6 : Int32), .int (2 : Int32), .ref h2, .int u.1])), (h2, .inl (cI, 12, .inl u.2))]) A) args s 0 0 A) (F0 m 23 ls []) := by
  obtain ⟨hx, hb, hml, hown, hts, hr, hlocks⟩ := id C
  intro x1 x2 s_looks_size s_looks_cells H locs ls hP hD hS hl hf
  unfold pX5_addLook_23 at hf
  refine lv_iconst (v := (0 : Int32)) hx hb dX5_addLook_23 (by decide) ?_
  exact wX5_addLook_24 C hK hN hA x1 x2 (0 : Int32) s_looks_size s_looks_cells H locs ls hP hD hS (lv_sub hl [0, 1, 2] rfl) hf
set_option maxHeartbeats 4000000 in
set_option maxRecDepth 100000 in
theorem metX5_addLook {h0 r_kinds r_passers r_beasts r_checks h1 h2 : Nat} {s_high s_low s_looks_size : Int32} {s_looks_cells : Nat → Int32} {a1 : Int32} {a2 : Int32} {sz : Nat} {k : Int32 → Int32 → (Nat → Int32) → Prop} (hf : pX5_addLook s_looks_size s_looks_cells a1 a2 k) : Met l yX5_addLook wsX5_addLook ({ frames := 2, cells := 0, slots := 0, locals := 44 } : Room) (va_Pc [.ref h0, .int a1, .int a2] (PR dC dI (TYS cI cL cB cZ cT cR) [(h0, .inr (5, [.ref r_kinds, .ref r_passers, .ref r_beasts, .ref r_checks, .ref h1, .int s_high, .int s_low])), (h1, .inr (7, [.int (6 : Int32), .int (2 : Int32), .ref h2, .int s_looks_size])), (h2, .inl (cI, 12, .inl s_looks_cells))] sz)) (va_Qi (fun (r : Int32) (u : Int32 × (Nat → Int32)) => k r u.1 u.2) (fun (u : Int32 × (Nat → Int32)) t => va_P (dC, dI) vwCl [(h0, .inr (5, [.ref r_kinds, .ref r_passers, .ref r_beasts, .ref r_checks, .ref h1, .int s_high, .int s_low])), (h1, .inr (7, [.int (6 : Int32), .int (2 : Int32), .ref h2, .int u.1])), (h2, .inl (cI, 12, .inl u.2))] t.heap ∧ va_D (va_A [(h0, .inr (5, [.ref r_kinds, .ref r_passers, .ref r_beasts, .ref r_checks, .ref h1, .int s_high, .int s_low])), (h1, .inr (7, [.int (6 : Int32), .int (2 : Int32), .ref h2, .int s_looks_size])), (h2, .inl (cI, 12, .inl s_looks_cells))] sz) [(h0, .inr (5, [.ref r_kinds, .ref r_passers, .ref r_beasts, .ref r_checks, .ref h1, .int s_high, .int s_low])), (h1, .inr (7, [.int (6 : Int32), .int (2 : Int32), .ref h2, .int u.1])), (h2, .inl (cI, 12, .inl u.2))]) (va_A [(h0, .inr (5, [.ref r_kinds, .ref r_passers, .ref r_beasts, .ref r_checks, .ref h1, .int s_high, .int s_low])), (h1, .inr (7, [.int (6 : Int32), .int (2 : Int32), .ref h2, .int s_looks_size])), (h2, .inl (cI, 12, .inl s_looks_cells))] sz)) 0 0 (va_A [(h0, .inr (5, [.ref r_kinds, .ref r_passers, .ref r_beasts, .ref r_checks, .ref h1, .int s_high, .int s_low])), (h1, .inr (7, [.int (6 : Int32), .int (2 : Int32), .ref h2, .int s_looks_size])), (h2, .inl (cI, 12, .inl s_looks_cells))] sz) := by
  refine Met.ofW (cc := cX5_addLook) (maxL := 5) (ret := (some .int)) (by decide) rfl ?_
  intro p e s m args below meth c s₁ B hml hv
  obtain ⟨rfl, hsz, hP, hK, hN, hD0⟩ := hv
  have C : CX p s m _ meth c cX5_addLook 5 wsX5_addLook RX5 (some .int) := ⟨B.exec, B.bytes, hml, findClass_of_methodNamed B.named, atoms_spec (ws := wsX5_addLook) B.pre, B.returns, B.notSynchronized⟩
  obtain ⟨hx, hb, -, hown, hts, hr, hlocks⟩ := id C
  subst hsz
  have hD := hD0.self (sz := s.heap.size)
  generalize hAe : va_A [(h0, .inr (5, [.ref r_kinds, .ref r_passers, .ref r_beasts, .ref r_checks, .ref h1, .int s_high, .int s_low])), (h1, .inr (7, [.int (6 : Int32), .int (2 : Int32), .ref h2, .int s_looks_size])), (h2, .inl (cI, 12, .inl s_looks_cells))] s.heap.size = A at hD ⊢
  have hA : ∀ q : Nat, s.heap.size ≤ q → A q := fun q h => by rw [← hAe]; exact Or.inr h
  have hS : va_S A s.heap s.heap [] := va_S.rf
  have hl := lv_entry ([.ref h0, .int a1, .int a2]) (n := 5) (Nat.le_of_ble_eq_true rfl)
  rw [lg_entry_eq]
  generalize (lg_sl ([.ref h0, .int a1, .int a2]) ++ List.replicate (5 - (lg_sl ([.ref h0, .int a1, .int a2])).length) Slot.unset).toArray = ls at hl ⊢
  have hl : lv_has ls 5 [(0, .ref h0), (1, .int a1), (2, .int a2)] := hl
  unfold pX5_addLook at hf
  obtain ⟨H, hH⟩ : ∃ H, H = s.heap := ⟨_, rfl⟩
  obtain ⟨locs, hlo⟩ : ∃ L : List Loc, L = [] := ⟨_, rfl⟩
  have hS : va_S A s.heap H locs := by rw [hH, hlo]; exact hS
  rw [← hH] at hP
  have hG : W p l e ({ frames := 2, cells := 0, slots := 0, locals := 44 } : Room) s m [.ref h0, .int a1, .int a2].toArray below meth c H locs 0 0 (MQ below (va_Qi (fun (r : Int32) (u : Int32 × (Nat → Int32)) => k r u.1 u.2) (fun (u : Int32 × (Nat → Int32)) t => va_P (dC, dI) vwCl [(h0, .inr (5, [.ref r_kinds, .ref r_passers, .ref r_beasts, .ref r_checks, .ref h1, .int s_high, .int s_low])), (h1, .inr (7, [.int (6 : Int32), .int (2 : Int32), .ref h2, .int u.1])), (h2, .inl (cI, 12, .inl u.2))] t.heap ∧ va_D A [(h0, .inr (5, [.ref r_kinds, .ref r_passers, .ref r_beasts, .ref r_checks, .ref h1, .int s_high, .int s_low])), (h1, .inr (7, [.int (6 : Int32), .int (2 : Int32), .ref h2, .int u.1])), (h2, .inl (cI, 12, .inl u.2))]) A) [.ref h0, .int a1, .int a2].toArray s 0 0 A) (F0 m 0 ls []) := by
    clear hlo hH hD0
    refine lv_iload_n hx hb dX5_addLook_0 rfl (lv_at hl 1 rfl) ?_
    have hPc := hP.sub (ws' := []) [] rfl
    refine ro_calli (va_runSN (As := [.int a1]) (rest := []) ⟨hx, hb, hml, hown, hts⟩ (metX11_isMinute hf) ⟨va_cnB 1 hts gX5_addLook_X11_isMinute_n51 rfl rfl rfl (hN _ nwm_1) (hts _ mX5_addLook_iX11) kX11_isMinute ⟨Nat.le_of_ble_eq_true rfl, Nat.le_of_ble_eq_true rfl⟩, hts _ mX5_addLook_sX11_isMinute, trivial⟩ ⟨PW.blind, fun U hU hW => ⟨rfl, PW.go hU hW hPc hK hN⟩⟩ rfl rfl hl.1 rfl (lv_room (Nat.le_of_ble_eq_true rfl)) dX5_addLook_1 ⟨Nat.zero_le _, Nat.zero_le _⟩) (fun r_1 hf => ?_)
    refine lv_if_eq (tgt := 23) hx hb dX5_addLook_4 (by decide) (fun c_2 => ?_) (fun c_2 => ?_)
    · replace hf := hf.1 c_2
      exact wX5_addLook_23 C hK hN hA a1 a2 s_looks_size s_looks_cells H locs ls hP hD hS (lv_sub hl [0, 1, 2] rfl) hf
    · replace hf := hf.2 c_2
      refine lv_iload_n hx hb dX5_addLook_7 rfl (lv_at hl 1 rfl) ?_
      refine lv_aload_n hx hb dX5_addLook_8 rfl (lv_at hl 0 rfl) ?_
      refine va_get (D := (dC, dI)) (ci := 5) (v := .ref h1) (C := RX5) (T := TX5) (N := 7) hx hb hts iX5_addLook_X5 hown hK hP 0 rfl rfl 4 (by decide) (hts _ mX5_addLook_f26) (fun _ h9 => h9) rfl dX5_addLook_9 ?_
      refine lv_iconst (v := (0 : Int32)) hx hb dX5_addLook_12 (by decide) ?_
      have hPc := hP.sub (ws' := [(h1, .inr (7, [.int (6 : Int32), .int (2 : Int32), .ref h2, .int s_looks_size])), (h2, .inl (cI, 12, .inl s_looks_cells))]) [1, 2] rfl
      refine ro_calli (va_runV (As := [.int (0 : Int32)]) (rest := [.int a1]) ⟨hx, hb, hml, hown, hts⟩ (metX7_lastAt hf) (cwV 1 hts gX5_addLook_X7_lastAt rfl rfl rfl ⟨rfl, kX7_lastAt⟩ ⟨Nat.le_of_ble_eq_true rfl, Nat.le_of_ble_eq_true rfl⟩) ⟨PW.blind, va_recv hK hPc (ci := 7) (q0 := 0) rfl rfl, fun U hU hW => ⟨rfl, PW.go hU hW hPc hK hN⟩⟩ rfl rfl hl.1 rfl (lv_room (Nat.le_of_ble_eq_true rfl)) dX5_addLook_13 ⟨Nat.zero_le _, Nat.zero_le _⟩) (fun r_10 hf => ?_)
      refine lv_icmp_lt (tgt := 23) hx hb dX5_addLook_16 (by decide) (fun c_11 => ?_) (fun c_11 => ?_)
      · replace hf := hf.1 c_11
        exact wX5_addLook_23 C hK hN hA a1 a2 s_looks_size s_looks_cells H locs ls hP hD hS (lv_sub hl [0, 1, 2] rfl) hf
      · replace hf := hf.2 c_11
        refine lv_iconst (v := (1 : Int32)) hx hb dX5_addLook_19 (by decide) ?_
        refine lv_goto (tgt := 24) hx hb dX5_addLook_20 (by decide) ?_
        exact wX5_addLook_24 C hK hN hA a1 a2 (1 : Int32) s_looks_size s_looks_cells H locs ls hP hD hS (lv_sub hl [0, 1, 2] rfl) hf
  rw [hH, hlo] at hG
  exact hG
set_option maxHeartbeats 4000000 in
set_option maxRecDepth 100000 in
theorem metX5_become {h0 r_kinds h1 h2 h3 h4 h5 h6 h7 h8 h9 r1_kinds h10 h11 h12 h13 h14 h15 h16 h17 : Nat} {s_high s_low s_passers_size s_beasts_size s_checks_size s_looks_size s1_high s1_low s1_passers_size s1_beasts_size s1_checks_size s1_looks_size : Int32} {s_passers_cells s_beasts_cells s_checks_cells s_looks_cells s1_passers_cells s1_beasts_cells s1_checks_cells s1_looks_cells : Nat → Int32}  {sz : Nat} {k : Int32 → Int32 → Int32 → (Nat → Int32) → Int32 → (Nat → Int32) → Int32 → (Nat → Int32) → Int32 → (Nat → Int32) → Prop} (hf : pX5_become s_high s_low s_passers_size s_passers_cells s_beasts_size s_beasts_cells s_checks_size s_checks_cells s_looks_size s_looks_cells s1_high s1_low s1_passers_size s1_passers_cells s1_beasts_size s1_beasts_cells s1_checks_size s1_checks_cells s1_looks_size s1_looks_cells k) : Met l yX5_become wsX5_become ({ frames := 2, cells := 0, slots := 0, locals := 46 } : Room) (va_Pc [.ref h0, .ref h9] (PR dC dI (TYS cI cL cB cZ cT cR) [(h0, .inr (5, [.ref r_kinds, .ref h1, .ref h3, .ref h5, .ref h7, .int s_high, .int s_low])), (h1, .inr (7, [.int (12 : Int32), .int (6 : Int32), .ref h2, .int s_passers_size])), (h2, .inl (cI, 72, .inl s_passers_cells)), (h3, .inr (7, [.int (4 : Int32), .int (2 : Int32), .ref h4, .int s_beasts_size])), (h4, .inl (cI, 8, .inl s_beasts_cells)), (h5, .inr (7, [.int (5 : Int32), .int (3 : Int32), .ref h6, .int s_checks_size])), (h6, .inl (cI, 15, .inl s_checks_cells)), (h7, .inr (7, [.int (6 : Int32), .int (2 : Int32), .ref h8, .int s_looks_size])), (h8, .inl (cI, 12, .inl s_looks_cells)), (h9, .inr (5, [.ref r1_kinds, .ref h10, .ref h12, .ref h14, .ref h16, .int s1_high, .int s1_low])), (h10, .inr (7, [.int (12 : Int32), .int (6 : Int32), .ref h11, .int s1_passers_size])), (h11, .inl (cI, 72, .inl s1_passers_cells)), (h12, .inr (7, [.int (4 : Int32), .int (2 : Int32), .ref h13, .int s1_beasts_size])), (h13, .inl (cI, 8, .inl s1_beasts_cells)), (h14, .inr (7, [.int (5 : Int32), .int (3 : Int32), .ref h15, .int s1_checks_size])), (h15, .inl (cI, 15, .inl s1_checks_cells)), (h16, .inr (7, [.int (6 : Int32), .int (2 : Int32), .ref h17, .int s1_looks_size])), (h17, .inl (cI, 12, .inl s1_looks_cells))] sz)) (va_Qv (fun (u : Int32 × Int32 × Int32 × (Nat → Int32) × Int32 × (Nat → Int32) × Int32 × (Nat → Int32) × Int32 × (Nat → Int32)) => k u.1 u.2.1 u.2.2.1 u.2.2.2.1 u.2.2.2.2.1 u.2.2.2.2.2.1 u.2.2.2.2.2.2.1 u.2.2.2.2.2.2.2.1 u.2.2.2.2.2.2.2.2.1 u.2.2.2.2.2.2.2.2.2) (fun (u : Int32 × Int32 × Int32 × (Nat → Int32) × Int32 × (Nat → Int32) × Int32 × (Nat → Int32) × Int32 × (Nat → Int32)) t => va_P (dC, dI) vwCl [(h0, .inr (5, [.ref r_kinds, .ref h1, .ref h3, .ref h5, .ref h7, .int u.1, .int u.2.1])), (h1, .inr (7, [.int (12 : Int32), .int (6 : Int32), .ref h2, .int u.2.2.1])), (h2, .inl (cI, 72, .inl u.2.2.2.1)), (h3, .inr (7, [.int (4 : Int32), .int (2 : Int32), .ref h4, .int u.2.2.2.2.1])), (h4, .inl (cI, 8, .inl u.2.2.2.2.2.1)), (h5, .inr (7, [.int (5 : Int32), .int (3 : Int32), .ref h6, .int u.2.2.2.2.2.2.1])), (h6, .inl (cI, 15, .inl u.2.2.2.2.2.2.2.1)), (h7, .inr (7, [.int (6 : Int32), .int (2 : Int32), .ref h8, .int u.2.2.2.2.2.2.2.2.1])), (h8, .inl (cI, 12, .inl u.2.2.2.2.2.2.2.2.2)), (h9, .inr (5, [.ref r1_kinds, .ref h10, .ref h12, .ref h14, .ref h16, .int s1_high, .int s1_low])), (h10, .inr (7, [.int (12 : Int32), .int (6 : Int32), .ref h11, .int s1_passers_size])), (h11, .inl (cI, 72, .inl s1_passers_cells)), (h12, .inr (7, [.int (4 : Int32), .int (2 : Int32), .ref h13, .int s1_beasts_size])), (h13, .inl (cI, 8, .inl s1_beasts_cells)), (h14, .inr (7, [.int (5 : Int32), .int (3 : Int32), .ref h15, .int s1_checks_size])), (h15, .inl (cI, 15, .inl s1_checks_cells)), (h16, .inr (7, [.int (6 : Int32), .int (2 : Int32), .ref h17, .int s1_looks_size])), (h17, .inl (cI, 12, .inl s1_looks_cells))] t.heap ∧ va_D (va_A [(h0, .inr (5, [.ref r_kinds, .ref h1, .ref h3, .ref h5, .ref h7, .int s_high, .int s_low])), (h1, .inr (7, [.int (12 : Int32), .int (6 : Int32), .ref h2, .int s_passers_size])), (h2, .inl (cI, 72, .inl s_passers_cells)), (h3, .inr (7, [.int (4 : Int32), .int (2 : Int32), .ref h4, .int s_beasts_size])), (h4, .inl (cI, 8, .inl s_beasts_cells)), (h5, .inr (7, [.int (5 : Int32), .int (3 : Int32), .ref h6, .int s_checks_size])), (h6, .inl (cI, 15, .inl s_checks_cells)), (h7, .inr (7, [.int (6 : Int32), .int (2 : Int32), .ref h8, .int s_looks_size])), (h8, .inl (cI, 12, .inl s_looks_cells)), (h9, .inr (5, [.ref r1_kinds, .ref h10, .ref h12, .ref h14, .ref h16, .int s1_high, .int s1_low])), (h10, .inr (7, [.int (12 : Int32), .int (6 : Int32), .ref h11, .int s1_passers_size])), (h11, .inl (cI, 72, .inl s1_passers_cells)), (h12, .inr (7, [.int (4 : Int32), .int (2 : Int32), .ref h13, .int s1_beasts_size])), (h13, .inl (cI, 8, .inl s1_beasts_cells)), (h14, .inr (7, [.int (5 : Int32), .int (3 : Int32), .ref h15, .int s1_checks_size])), (h15, .inl (cI, 15, .inl s1_checks_cells)), (h16, .inr (7, [.int (6 : Int32), .int (2 : Int32), .ref h17, .int s1_looks_size])), (h17, .inl (cI, 12, .inl s1_looks_cells))] sz) [(h0, .inr (5, [.ref r_kinds, .ref h1, .ref h3, .ref h5, .ref h7, .int u.1, .int u.2.1])), (h1, .inr (7, [.int (12 : Int32), .int (6 : Int32), .ref h2, .int u.2.2.1])), (h2, .inl (cI, 72, .inl u.2.2.2.1)), (h3, .inr (7, [.int (4 : Int32), .int (2 : Int32), .ref h4, .int u.2.2.2.2.1])), (h4, .inl (cI, 8, .inl u.2.2.2.2.2.1)), (h5, .inr (7, [.int (5 : Int32), .int (3 : Int32), .ref h6, .int u.2.2.2.2.2.2.1])), (h6, .inl (cI, 15, .inl u.2.2.2.2.2.2.2.1)), (h7, .inr (7, [.int (6 : Int32), .int (2 : Int32), .ref h8, .int u.2.2.2.2.2.2.2.2.1])), (h8, .inl (cI, 12, .inl u.2.2.2.2.2.2.2.2.2)), (h9, .inr (5, [.ref r1_kinds, .ref h10, .ref h12, .ref h14, .ref h16, .int s1_high, .int s1_low])), (h10, .inr (7, [.int (12 : Int32), .int (6 : Int32), .ref h11, .int s1_passers_size])), (h11, .inl (cI, 72, .inl s1_passers_cells)), (h12, .inr (7, [.int (4 : Int32), .int (2 : Int32), .ref h13, .int s1_beasts_size])), (h13, .inl (cI, 8, .inl s1_beasts_cells)), (h14, .inr (7, [.int (5 : Int32), .int (3 : Int32), .ref h15, .int s1_checks_size])), (h15, .inl (cI, 15, .inl s1_checks_cells)), (h16, .inr (7, [.int (6 : Int32), .int (2 : Int32), .ref h17, .int s1_looks_size])), (h17, .inl (cI, 12, .inl s1_looks_cells))]) (va_A [(h0, .inr (5, [.ref r_kinds, .ref h1, .ref h3, .ref h5, .ref h7, .int s_high, .int s_low])), (h1, .inr (7, [.int (12 : Int32), .int (6 : Int32), .ref h2, .int s_passers_size])), (h2, .inl (cI, 72, .inl s_passers_cells)), (h3, .inr (7, [.int (4 : Int32), .int (2 : Int32), .ref h4, .int s_beasts_size])), (h4, .inl (cI, 8, .inl s_beasts_cells)), (h5, .inr (7, [.int (5 : Int32), .int (3 : Int32), .ref h6, .int s_checks_size])), (h6, .inl (cI, 15, .inl s_checks_cells)), (h7, .inr (7, [.int (6 : Int32), .int (2 : Int32), .ref h8, .int s_looks_size])), (h8, .inl (cI, 12, .inl s_looks_cells)), (h9, .inr (5, [.ref r1_kinds, .ref h10, .ref h12, .ref h14, .ref h16, .int s1_high, .int s1_low])), (h10, .inr (7, [.int (12 : Int32), .int (6 : Int32), .ref h11, .int s1_passers_size])), (h11, .inl (cI, 72, .inl s1_passers_cells)), (h12, .inr (7, [.int (4 : Int32), .int (2 : Int32), .ref h13, .int s1_beasts_size])), (h13, .inl (cI, 8, .inl s1_beasts_cells)), (h14, .inr (7, [.int (5 : Int32), .int (3 : Int32), .ref h15, .int s1_checks_size])), (h15, .inl (cI, 15, .inl s1_checks_cells)), (h16, .inr (7, [.int (6 : Int32), .int (2 : Int32), .ref h17, .int s1_looks_size])), (h17, .inl (cI, 12, .inl s1_looks_cells))] sz)) 0 0 (va_A [(h0, .inr (5, [.ref r_kinds, .ref h1, .ref h3, .ref h5, .ref h7, .int s_high, .int s_low])), (h1, .inr (7, [.int (12 : Int32), .int (6 : Int32), .ref h2, .int s_passers_size])), (h2, .inl (cI, 72, .inl s_passers_cells)), (h3, .inr (7, [.int (4 : Int32), .int (2 : Int32), .ref h4, .int s_beasts_size])), (h4, .inl (cI, 8, .inl s_beasts_cells)), (h5, .inr (7, [.int (5 : Int32), .int (3 : Int32), .ref h6, .int s_checks_size])), (h6, .inl (cI, 15, .inl s_checks_cells)), (h7, .inr (7, [.int (6 : Int32), .int (2 : Int32), .ref h8, .int s_looks_size])), (h8, .inl (cI, 12, .inl s_looks_cells)), (h9, .inr (5, [.ref r1_kinds, .ref h10, .ref h12, .ref h14, .ref h16, .int s1_high, .int s1_low])), (h10, .inr (7, [.int (12 : Int32), .int (6 : Int32), .ref h11, .int s1_passers_size])), (h11, .inl (cI, 72, .inl s1_passers_cells)), (h12, .inr (7, [.int (4 : Int32), .int (2 : Int32), .ref h13, .int s1_beasts_size])), (h13, .inl (cI, 8, .inl s1_beasts_cells)), (h14, .inr (7, [.int (5 : Int32), .int (3 : Int32), .ref h15, .int s1_checks_size])), (h15, .inl (cI, 15, .inl s1_checks_cells)), (h16, .inr (7, [.int (6 : Int32), .int (2 : Int32), .ref h17, .int s1_looks_size])), (h17, .inl (cI, 12, .inl s1_looks_cells))] sz) := by
  refine Met.ofW (cc := cX5_become) (maxL := 2) (ret := none) (by decide) rfl ?_
  intro p e s m args below meth c s₁ B hml hv
  obtain ⟨rfl, hsz, hP, hK, hN, hD0⟩ := hv
  have C : CX p s m _ meth c cX5_become 2 wsX5_become RX5 none := ⟨B.exec, B.bytes, hml, findClass_of_methodNamed B.named, atoms_spec (ws := wsX5_become) B.pre, B.returns, B.notSynchronized⟩
  obtain ⟨hx, hb, -, hown, hts, hr, hlocks⟩ := id C
  subst hsz
  have hD := hD0.self (sz := s.heap.size)
  generalize hAe : va_A [(h0, .inr (5, [.ref r_kinds, .ref h1, .ref h3, .ref h5, .ref h7, .int s_high, .int s_low])), (h1, .inr (7, [.int (12 : Int32), .int (6 : Int32), .ref h2, .int s_passers_size])), (h2, .inl (cI, 72, .inl s_passers_cells)), (h3, .inr (7, [.int (4 : Int32), .int (2 : Int32), .ref h4, .int s_beasts_size])), (h4, .inl (cI, 8, .inl s_beasts_cells)), (h5, .inr (7, [.int (5 : Int32), .int (3 : Int32), .ref h6, .int s_checks_size])), (h6, .inl (cI, 15, .inl s_checks_cells)), (h7, .inr (7, [.int (6 : Int32), .int (2 : Int32), .ref h8, .int s_looks_size])), (h8, .inl (cI, 12, .inl s_looks_cells)), (h9, .inr (5, [.ref r1_kinds, .ref h10, .ref h12, .ref h14, .ref h16, .int s1_high, .int s1_low])), (h10, .inr (7, [.int (12 : Int32), .int (6 : Int32), .ref h11, .int s1_passers_size])), (h11, .inl (cI, 72, .inl s1_passers_cells)), (h12, .inr (7, [.int (4 : Int32), .int (2 : Int32), .ref h13, .int s1_beasts_size])), (h13, .inl (cI, 8, .inl s1_beasts_cells)), (h14, .inr (7, [.int (5 : Int32), .int (3 : Int32), .ref h15, .int s1_checks_size])), (h15, .inl (cI, 15, .inl s1_checks_cells)), (h16, .inr (7, [.int (6 : Int32), .int (2 : Int32), .ref h17, .int s1_looks_size])), (h17, .inl (cI, 12, .inl s1_looks_cells))] s.heap.size = A at hD ⊢
  have hA : ∀ q : Nat, s.heap.size ≤ q → A q := fun q h => by rw [← hAe]; exact Or.inr h
  have hS : va_S A s.heap s.heap [] := va_S.rf
  have hl := lv_entry ([.ref h0, .ref h9]) (n := 2) (Nat.le_of_ble_eq_true rfl)
  rw [lg_entry_eq]
  generalize (lg_sl ([.ref h0, .ref h9]) ++ List.replicate (2 - (lg_sl ([.ref h0, .ref h9])).length) Slot.unset).toArray = ls at hl ⊢
  have hl : lv_has ls 2 [(0, .ref h0), (1, .ref h9)] := hl
  unfold pX5_become at hf
  obtain ⟨H, hH⟩ : ∃ H, H = s.heap := ⟨_, rfl⟩
  obtain ⟨locs, hlo⟩ : ∃ L : List Loc, L = [] := ⟨_, rfl⟩
  have hS : va_S A s.heap H locs := by rw [hH, hlo]; exact hS
  rw [← hH] at hP
  have hG : W p l e ({ frames := 2, cells := 0, slots := 0, locals := 46 } : Room) s m [.ref h0, .ref h9].toArray below meth c H locs 0 0 (MQ below (va_Qv (fun (u : Int32 × Int32 × Int32 × (Nat → Int32) × Int32 × (Nat → Int32) × Int32 × (Nat → Int32) × Int32 × (Nat → Int32)) => k u.1 u.2.1 u.2.2.1 u.2.2.2.1 u.2.2.2.2.1 u.2.2.2.2.2.1 u.2.2.2.2.2.2.1 u.2.2.2.2.2.2.2.1 u.2.2.2.2.2.2.2.2.1 u.2.2.2.2.2.2.2.2.2) (fun (u : Int32 × Int32 × Int32 × (Nat → Int32) × Int32 × (Nat → Int32) × Int32 × (Nat → Int32) × Int32 × (Nat → Int32)) t => va_P (dC, dI) vwCl [(h0, .inr (5, [.ref r_kinds, .ref h1, .ref h3, .ref h5, .ref h7, .int u.1, .int u.2.1])), (h1, .inr (7, [.int (12 : Int32), .int (6 : Int32), .ref h2, .int u.2.2.1])), (h2, .inl (cI, 72, .inl u.2.2.2.1)), (h3, .inr (7, [.int (4 : Int32), .int (2 : Int32), .ref h4, .int u.2.2.2.2.1])), (h4, .inl (cI, 8, .inl u.2.2.2.2.2.1)), (h5, .inr (7, [.int (5 : Int32), .int (3 : Int32), .ref h6, .int u.2.2.2.2.2.2.1])), (h6, .inl (cI, 15, .inl u.2.2.2.2.2.2.2.1)), (h7, .inr (7, [.int (6 : Int32), .int (2 : Int32), .ref h8, .int u.2.2.2.2.2.2.2.2.1])), (h8, .inl (cI, 12, .inl u.2.2.2.2.2.2.2.2.2)), (h9, .inr (5, [.ref r1_kinds, .ref h10, .ref h12, .ref h14, .ref h16, .int s1_high, .int s1_low])), (h10, .inr (7, [.int (12 : Int32), .int (6 : Int32), .ref h11, .int s1_passers_size])), (h11, .inl (cI, 72, .inl s1_passers_cells)), (h12, .inr (7, [.int (4 : Int32), .int (2 : Int32), .ref h13, .int s1_beasts_size])), (h13, .inl (cI, 8, .inl s1_beasts_cells)), (h14, .inr (7, [.int (5 : Int32), .int (3 : Int32), .ref h15, .int s1_checks_size])), (h15, .inl (cI, 15, .inl s1_checks_cells)), (h16, .inr (7, [.int (6 : Int32), .int (2 : Int32), .ref h17, .int s1_looks_size])), (h17, .inl (cI, 12, .inl s1_looks_cells))] t.heap ∧ va_D A [(h0, .inr (5, [.ref r_kinds, .ref h1, .ref h3, .ref h5, .ref h7, .int u.1, .int u.2.1])), (h1, .inr (7, [.int (12 : Int32), .int (6 : Int32), .ref h2, .int u.2.2.1])), (h2, .inl (cI, 72, .inl u.2.2.2.1)), (h3, .inr (7, [.int (4 : Int32), .int (2 : Int32), .ref h4, .int u.2.2.2.2.1])), (h4, .inl (cI, 8, .inl u.2.2.2.2.2.1)), (h5, .inr (7, [.int (5 : Int32), .int (3 : Int32), .ref h6, .int u.2.2.2.2.2.2.1])), (h6, .inl (cI, 15, .inl u.2.2.2.2.2.2.2.1)), (h7, .inr (7, [.int (6 : Int32), .int (2 : Int32), .ref h8, .int u.2.2.2.2.2.2.2.2.1])), (h8, .inl (cI, 12, .inl u.2.2.2.2.2.2.2.2.2)), (h9, .inr (5, [.ref r1_kinds, .ref h10, .ref h12, .ref h14, .ref h16, .int s1_high, .int s1_low])), (h10, .inr (7, [.int (12 : Int32), .int (6 : Int32), .ref h11, .int s1_passers_size])), (h11, .inl (cI, 72, .inl s1_passers_cells)), (h12, .inr (7, [.int (4 : Int32), .int (2 : Int32), .ref h13, .int s1_beasts_size])), (h13, .inl (cI, 8, .inl s1_beasts_cells)), (h14, .inr (7, [.int (5 : Int32), .int (3 : Int32), .ref h15, .int s1_checks_size])), (h15, .inl (cI, 15, .inl s1_checks_cells)), (h16, .inr (7, [.int (6 : Int32), .int (2 : Int32), .ref h17, .int s1_looks_size])), (h17, .inl (cI, 12, .inl s1_looks_cells))]) A) [.ref h0, .ref h9].toArray s 0 0 A) (F0 m 0 ls []) := by
    clear hlo hH hD0
    refine lv_aload_n hx hb dX5_become_0 rfl (lv_at hl 0 rfl) ?_
    refine lv_aload_n hx hb dX5_become_1 rfl (lv_at hl 1 rfl) ?_
    refine va_get (D := (dC, dI)) (ci := 5) (v := .int s1_high) (C := RX5) (T := TX5) (N := 7) hx hb hts iX5_become_X5 hown hK hP 9 rfl rfl 5 (by decide) (hts _ mX5_become_f29) (fun _ h9 => h9) rfl dX5_become_2 ?_
    refine va_put (D := (dC, dI)) (ci := 5) (v := .int s1_high) (ty := .int) (C := RX5) (T := TX5) (N := 7) hx hb hts iX5_become_X5 tyX5 tyX5_ok nmX5 hown hK hP hD hS 0 rfl rfl 5 (by decide) (hts _ mX5_become_f29) (fun _ h9 => h9) rfl (by decide +kernel) rfl rfl (Nat.le_of_ble_eq_true rfl) dX5_become_5 (fun H locs hP hD hS => ?_)
    replace hP : va_P (dC, dI) vwCl [(h0, .inr (5, [.ref r_kinds, .ref h1, .ref h3, .ref h5, .ref h7, .int s1_high, .int s_low])), (h1, .inr (7, [.int (12 : Int32), .int (6 : Int32), .ref h2, .int s_passers_size])), (h2, .inl (cI, 72, .inl s_passers_cells)), (h3, .inr (7, [.int (4 : Int32), .int (2 : Int32), .ref h4, .int s_beasts_size])), (h4, .inl (cI, 8, .inl s_beasts_cells)), (h5, .inr (7, [.int (5 : Int32), .int (3 : Int32), .ref h6, .int s_checks_size])), (h6, .inl (cI, 15, .inl s_checks_cells)), (h7, .inr (7, [.int (6 : Int32), .int (2 : Int32), .ref h8, .int s_looks_size])), (h8, .inl (cI, 12, .inl s_looks_cells)), (h9, .inr (5, [.ref r1_kinds, .ref h10, .ref h12, .ref h14, .ref h16, .int s1_high, .int s1_low])), (h10, .inr (7, [.int (12 : Int32), .int (6 : Int32), .ref h11, .int s1_passers_size])), (h11, .inl (cI, 72, .inl s1_passers_cells)), (h12, .inr (7, [.int (4 : Int32), .int (2 : Int32), .ref h13, .int s1_beasts_size])), (h13, .inl (cI, 8, .inl s1_beasts_cells)), (h14, .inr (7, [.int (5 : Int32), .int (3 : Int32), .ref h15, .int s1_checks_size])), (h15, .inl (cI, 15, .inl s1_checks_cells)), (h16, .inr (7, [.int (6 : Int32), .int (2 : Int32), .ref h17, .int s1_looks_size])), (h17, .inl (cI, 12, .inl s1_looks_cells))] H := hP
    replace hD : va_D A [(h0, .inr (5, [.ref r_kinds, .ref h1, .ref h3, .ref h5, .ref h7, .int s1_high, .int s_low])), (h1, .inr (7, [.int (12 : Int32), .int (6 : Int32), .ref h2, .int s_passers_size])), (h2, .inl (cI, 72, .inl s_passers_cells)), (h3, .inr (7, [.int (4 : Int32), .int (2 : Int32), .ref h4, .int s_beasts_size])), (h4, .inl (cI, 8, .inl s_beasts_cells)), (h5, .inr (7, [.int (5 : Int32), .int (3 : Int32), .ref h6, .int s_checks_size])), (h6, .inl (cI, 15, .inl s_checks_cells)), (h7, .inr (7, [.int (6 : Int32), .int (2 : Int32), .ref h8, .int s_looks_size])), (h8, .inl (cI, 12, .inl s_looks_cells)), (h9, .inr (5, [.ref r1_kinds, .ref h10, .ref h12, .ref h14, .ref h16, .int s1_high, .int s1_low])), (h10, .inr (7, [.int (12 : Int32), .int (6 : Int32), .ref h11, .int s1_passers_size])), (h11, .inl (cI, 72, .inl s1_passers_cells)), (h12, .inr (7, [.int (4 : Int32), .int (2 : Int32), .ref h13, .int s1_beasts_size])), (h13, .inl (cI, 8, .inl s1_beasts_cells)), (h14, .inr (7, [.int (5 : Int32), .int (3 : Int32), .ref h15, .int s1_checks_size])), (h15, .inl (cI, 15, .inl s1_checks_cells)), (h16, .inr (7, [.int (6 : Int32), .int (2 : Int32), .ref h17, .int s1_looks_size])), (h17, .inl (cI, 12, .inl s1_looks_cells))] := hD
    refine lv_aload_n hx hb dX5_become_8 rfl (lv_at hl 0 rfl) ?_
    refine lv_aload_n hx hb dX5_become_9 rfl (lv_at hl 1 rfl) ?_
    refine va_get (D := (dC, dI)) (ci := 5) (v := .int s1_low) (C := RX5) (T := TX5) (N := 7) hx hb hts iX5_become_X5 hown hK hP 9 rfl rfl 6 (by decide) (hts _ mX5_become_f33) (fun _ h9 => h9) rfl dX5_become_10 ?_
    refine va_put (D := (dC, dI)) (ci := 5) (v := .int s1_low) (ty := .int) (C := RX5) (T := TX5) (N := 7) hx hb hts iX5_become_X5 tyX5 tyX5_ok nmX5 hown hK hP hD hS 0 rfl rfl 6 (by decide) (hts _ mX5_become_f33) (fun _ h9 => h9) rfl (by decide +kernel) rfl rfl (Nat.le_of_ble_eq_true rfl) dX5_become_13 (fun H locs hP hD hS => ?_)
    replace hP : va_P (dC, dI) vwCl [(h0, .inr (5, [.ref r_kinds, .ref h1, .ref h3, .ref h5, .ref h7, .int s1_high, .int s1_low])), (h1, .inr (7, [.int (12 : Int32), .int (6 : Int32), .ref h2, .int s_passers_size])), (h2, .inl (cI, 72, .inl s_passers_cells)), (h3, .inr (7, [.int (4 : Int32), .int (2 : Int32), .ref h4, .int s_beasts_size])), (h4, .inl (cI, 8, .inl s_beasts_cells)), (h5, .inr (7, [.int (5 : Int32), .int (3 : Int32), .ref h6, .int s_checks_size])), (h6, .inl (cI, 15, .inl s_checks_cells)), (h7, .inr (7, [.int (6 : Int32), .int (2 : Int32), .ref h8, .int s_looks_size])), (h8, .inl (cI, 12, .inl s_looks_cells)), (h9, .inr (5, [.ref r1_kinds, .ref h10, .ref h12, .ref h14, .ref h16, .int s1_high, .int s1_low])), (h10, .inr (7, [.int (12 : Int32), .int (6 : Int32), .ref h11, .int s1_passers_size])), (h11, .inl (cI, 72, .inl s1_passers_cells)), (h12, .inr (7, [.int (4 : Int32), .int (2 : Int32), .ref h13, .int s1_beasts_size])), (h13, .inl (cI, 8, .inl s1_beasts_cells)), (h14, .inr (7, [.int (5 : Int32), .int (3 : Int32), .ref h15, .int s1_checks_size])), (h15, .inl (cI, 15, .inl s1_checks_cells)), (h16, .inr (7, [.int (6 : Int32), .int (2 : Int32), .ref h17, .int s1_looks_size])), (h17, .inl (cI, 12, .inl s1_looks_cells))] H := hP
    replace hD : va_D A [(h0, .inr (5, [.ref r_kinds, .ref h1, .ref h3, .ref h5, .ref h7, .int s1_high, .int s1_low])), (h1, .inr (7, [.int (12 : Int32), .int (6 : Int32), .ref h2, .int s_passers_size])), (h2, .inl (cI, 72, .inl s_passers_cells)), (h3, .inr (7, [.int (4 : Int32), .int (2 : Int32), .ref h4, .int s_beasts_size])), (h4, .inl (cI, 8, .inl s_beasts_cells)), (h5, .inr (7, [.int (5 : Int32), .int (3 : Int32), .ref h6, .int s_checks_size])), (h6, .inl (cI, 15, .inl s_checks_cells)), (h7, .inr (7, [.int (6 : Int32), .int (2 : Int32), .ref h8, .int s_looks_size])), (h8, .inl (cI, 12, .inl s_looks_cells)), (h9, .inr (5, [.ref r1_kinds, .ref h10, .ref h12, .ref h14, .ref h16, .int s1_high, .int s1_low])), (h10, .inr (7, [.int (12 : Int32), .int (6 : Int32), .ref h11, .int s1_passers_size])), (h11, .inl (cI, 72, .inl s1_passers_cells)), (h12, .inr (7, [.int (4 : Int32), .int (2 : Int32), .ref h13, .int s1_beasts_size])), (h13, .inl (cI, 8, .inl s1_beasts_cells)), (h14, .inr (7, [.int (5 : Int32), .int (3 : Int32), .ref h15, .int s1_checks_size])), (h15, .inl (cI, 15, .inl s1_checks_cells)), (h16, .inr (7, [.int (6 : Int32), .int (2 : Int32), .ref h17, .int s1_looks_size])), (h17, .inl (cI, 12, .inl s1_looks_cells))] := hD
    refine lv_aload_n hx hb dX5_become_16 rfl (lv_at hl 0 rfl) ?_
    refine va_get (D := (dC, dI)) (ci := 5) (v := .ref h1) (C := RX5) (T := TX5) (N := 7) hx hb hts iX5_become_X5 hown hK hP 0 rfl rfl 1 (by decide) (hts _ mX5_become_f14) (fun _ h9 => h9) rfl dX5_become_17 ?_
    refine lv_aload_n hx hb dX5_become_20 rfl (lv_at hl 1 rfl) ?_
    refine va_get (D := (dC, dI)) (ci := 5) (v := .ref h10) (C := RX5) (T := TX5) (N := 7) hx hb hts iX5_become_X5 hown hK hP 9 rfl rfl 1 (by decide) (hts _ mX5_become_f14) (fun _ h9 => h9) rfl dX5_become_21 ?_
    have hPc := hP.sub (ws' := [(h1, .inr (7, [.int (12 : Int32), .int (6 : Int32), .ref h2, .int s_passers_size])), (h2, .inl (cI, 72, .inl s_passers_cells)), (h10, .inr (7, [.int (12 : Int32), .int (6 : Int32), .ref h11, .int s1_passers_size])), (h11, .inl (cI, 72, .inl s1_passers_cells))]) [1, 2, 10, 11] rfl
    have hDc := hD.sub (ws' := [(h1, .inr (7, [.int (12 : Int32), .int (6 : Int32), .ref h2, .int s_passers_size])), (h2, .inl (cI, 72, .inl s_passers_cells)), (h10, .inr (7, [.int (12 : Int32), .int (6 : Int32), .ref h11, .int s1_passers_size])), (h11, .inl (cI, 72, .inl s1_passers_cells))]) [1, 2, 10, 11] (by decide) rfl
    have hFc := va_free (wc := [(h1, .inr (7, [.int (12 : Int32), .int (6 : Int32), .ref h2, .int s_passers_size])), (h2, .inl (cI, 72, .inl s_passers_cells)), (h10, .inr (7, [.int (12 : Int32), .int (6 : Int32), .ref h11, .int s1_passers_size])), (h11, .inl (cI, 72, .inl s1_passers_cells))]) hD hS hA [1, 2, 10, 11] rfl
    refine va_callv (va_runV (As := [.ref h10]) (rest := []) ⟨hx, hb, hml, hown, hts⟩ (metX7_become (sz := H.size) hf) (cwV 1 hts gX5_become_X7_become rfl rfl rfl ⟨rfl, kX7_become⟩ ⟨Nat.le_of_ble_eq_true rfl, Nat.le_of_ble_eq_true rfl⟩) ⟨PR.blind, va_recv hK hPc (ci := 7) (q0 := 0) rfl rfl, fun U hU hW => ⟨rfl, PR.go hU hW hPc hDc hK hN⟩⟩ rfl rfl hl.1 rfl (lv_room (Nat.le_of_ble_eq_true rfl)) dX5_become_24 ⟨Nat.zero_le _, Nat.zero_le _⟩) hS (fun q _ h => hFc q h) hFc (fun u t H1 locs ht hvm hf hB hz1 hk1 hS => ?_)
    obtain ⟨s_passers_size_1, s_passers_cells_1⟩ := u
    have hP1 : va_P (dC, dI) vwCl [(h1, .inr (7, [.int (12 : Int32), .int (6 : Int32), .ref h2, .int s_passers_size_1])), (h2, .inl (cI, 72, .inl s_passers_cells_1)), (h10, .inr (7, [.int (12 : Int32), .int (6 : Int32), .ref h11, .int s1_passers_size])), (h11, .inl (cI, 72, .inl s1_passers_cells))] H1 := by rw [← ht]; exact hB.1
    have hD1 : va_D (va_A [(h1, .inr (7, [.int (12 : Int32), .int (6 : Int32), .ref h2, .int s_passers_size])), (h2, .inl (cI, 72, .inl s_passers_cells)), (h10, .inr (7, [.int (12 : Int32), .int (6 : Int32), .ref h11, .int s1_passers_size])), (h11, .inl (cI, 72, .inl s1_passers_cells))] H.size) [(h1, .inr (7, [.int (12 : Int32), .int (6 : Int32), .ref h2, .int s_passers_size_1])), (h2, .inl (cI, 72, .inl s_passers_cells_1)), (h10, .inr (7, [.int (12 : Int32), .int (6 : Int32), .ref h11, .int s1_passers_size])), (h11, .inl (cI, 72, .inl s1_passers_cells))] := hB.2
    obtain ⟨hP, hD⟩ := jn (wr := [(h0, .inr (5, [.ref r_kinds, .ref h1, .ref h3, .ref h5, .ref h7, .int s1_high, .int s1_low])), (h3, .inr (7, [.int (4 : Int32), .int (2 : Int32), .ref h4, .int s_beasts_size])), (h4, .inl (cI, 8, .inl s_beasts_cells)), (h5, .inr (7, [.int (5 : Int32), .int (3 : Int32), .ref h6, .int s_checks_size])), (h6, .inl (cI, 15, .inl s_checks_cells)), (h7, .inr (7, [.int (6 : Int32), .int (2 : Int32), .ref h8, .int s_looks_size])), (h8, .inl (cI, 12, .inl s_looks_cells)), (h9, .inr (5, [.ref r1_kinds, .ref h10, .ref h12, .ref h14, .ref h16, .int s1_high, .int s1_low])), (h12, .inr (7, [.int (4 : Int32), .int (2 : Int32), .ref h13, .int s1_beasts_size])), (h13, .inl (cI, 8, .inl s1_beasts_cells)), (h14, .inr (7, [.int (5 : Int32), .int (3 : Int32), .ref h15, .int s1_checks_size])), (h15, .inl (cI, 15, .inl s1_checks_cells)), (h16, .inr (7, [.int (6 : Int32), .int (2 : Int32), .ref h17, .int s1_looks_size])), (h17, .inl (cI, 12, .inl s1_looks_cells))]) (ws' := [(h0, .inr (5, [.ref r_kinds, .ref h1, .ref h3, .ref h5, .ref h7, .int s1_high, .int s1_low])), (h1, .inr (7, [.int (12 : Int32), .int (6 : Int32), .ref h2, .int s_passers_size_1])), (h2, .inl (cI, 72, .inl s_passers_cells_1)), (h3, .inr (7, [.int (4 : Int32), .int (2 : Int32), .ref h4, .int s_beasts_size])), (h4, .inl (cI, 8, .inl s_beasts_cells)), (h5, .inr (7, [.int (5 : Int32), .int (3 : Int32), .ref h6, .int s_checks_size])), (h6, .inl (cI, 15, .inl s_checks_cells)), (h7, .inr (7, [.int (6 : Int32), .int (2 : Int32), .ref h8, .int s_looks_size])), (h8, .inl (cI, 12, .inl s_looks_cells)), (h9, .inr (5, [.ref r1_kinds, .ref h10, .ref h12, .ref h14, .ref h16, .int s1_high, .int s1_low])), (h10, .inr (7, [.int (12 : Int32), .int (6 : Int32), .ref h11, .int s1_passers_size])), (h11, .inl (cI, 72, .inl s1_passers_cells)), (h12, .inr (7, [.int (4 : Int32), .int (2 : Int32), .ref h13, .int s1_beasts_size])), (h13, .inl (cI, 8, .inl s1_beasts_cells)), (h14, .inr (7, [.int (5 : Int32), .int (3 : Int32), .ref h15, .int s1_checks_size])), (h15, .inl (cI, 15, .inl s1_checks_cells)), (h16, .inr (7, [.int (6 : Int32), .int (2 : Int32), .ref h17, .int s1_looks_size])), (h17, .inl (cI, 12, .inl s1_looks_cells))]) hP hD [1, 2, 10, 11] [0, 3, 4, 5, 6, 7, 8, 9, 12, 13, 14, 15, 16, 17] rfl rfl (by decide) (by decide) hk1 hFc hP1 hD1 [0, 14, 15, 1, 2, 3, 4, 5, 6, 7, 16, 17, 8, 9, 10, 11, 12, 13] (by decide) rfl
    clear hP1 hD1 hB hk1 hz1 hvm ht hPc hDc hFc
    generalize H1 = H at hP hS ⊢
    try dsimp only at hf
    refine lv_aload_n hx hb dX5_become_27 rfl (lv_at hl 0 rfl) ?_
    refine va_get (D := (dC, dI)) (ci := 5) (v := .ref h3) (C := RX5) (T := TX5) (N := 7) hx hb hts iX5_become_X5 hown hK hP 0 rfl rfl 2 (by decide) (hts _ mX5_become_f20) (fun _ h9 => h9) rfl dX5_become_28 ?_
    refine lv_aload_n hx hb dX5_become_31 rfl (lv_at hl 1 rfl) ?_
    refine va_get (D := (dC, dI)) (ci := 5) (v := .ref h12) (C := RX5) (T := TX5) (N := 7) hx hb hts iX5_become_X5 hown hK hP 9 rfl rfl 2 (by decide) (hts _ mX5_become_f20) (fun _ h9 => h9) rfl dX5_become_32 ?_
    have hPc := hP.sub (ws' := [(h3, .inr (7, [.int (4 : Int32), .int (2 : Int32), .ref h4, .int s_beasts_size])), (h4, .inl (cI, 8, .inl s_beasts_cells)), (h12, .inr (7, [.int (4 : Int32), .int (2 : Int32), .ref h13, .int s1_beasts_size])), (h13, .inl (cI, 8, .inl s1_beasts_cells))]) [3, 4, 12, 13] rfl
    have hDc := hD.sub (ws' := [(h3, .inr (7, [.int (4 : Int32), .int (2 : Int32), .ref h4, .int s_beasts_size])), (h4, .inl (cI, 8, .inl s_beasts_cells)), (h12, .inr (7, [.int (4 : Int32), .int (2 : Int32), .ref h13, .int s1_beasts_size])), (h13, .inl (cI, 8, .inl s1_beasts_cells))]) [3, 4, 12, 13] (by decide) rfl
    have hFc := va_free (wc := [(h3, .inr (7, [.int (4 : Int32), .int (2 : Int32), .ref h4, .int s_beasts_size])), (h4, .inl (cI, 8, .inl s_beasts_cells)), (h12, .inr (7, [.int (4 : Int32), .int (2 : Int32), .ref h13, .int s1_beasts_size])), (h13, .inl (cI, 8, .inl s1_beasts_cells))]) hD hS hA [3, 4, 12, 13] rfl
    refine va_callv (va_runV (As := [.ref h12]) (rest := []) ⟨hx, hb, hml, hown, hts⟩ (metX7_become (sz := H.size) hf) (cwV 1 hts gX5_become_X7_become rfl rfl rfl ⟨rfl, kX7_become⟩ ⟨Nat.le_of_ble_eq_true rfl, Nat.le_of_ble_eq_true rfl⟩) ⟨PR.blind, va_recv hK hPc (ci := 7) (q0 := 0) rfl rfl, fun U hU hW => ⟨rfl, PR.go hU hW hPc hDc hK hN⟩⟩ rfl rfl hl.1 rfl (lv_room (Nat.le_of_ble_eq_true rfl)) dX5_become_35 ⟨Nat.zero_le _, Nat.zero_le _⟩) hS (fun q _ h => hFc q h) hFc (fun u t H1 locs ht hvm hf hB hz1 hk1 hS => ?_)
    obtain ⟨s_beasts_size_2, s_beasts_cells_2⟩ := u
    have hP1 : va_P (dC, dI) vwCl [(h3, .inr (7, [.int (4 : Int32), .int (2 : Int32), .ref h4, .int s_beasts_size_2])), (h4, .inl (cI, 8, .inl s_beasts_cells_2)), (h12, .inr (7, [.int (4 : Int32), .int (2 : Int32), .ref h13, .int s1_beasts_size])), (h13, .inl (cI, 8, .inl s1_beasts_cells))] H1 := by rw [← ht]; exact hB.1
    have hD1 : va_D (va_A [(h3, .inr (7, [.int (4 : Int32), .int (2 : Int32), .ref h4, .int s_beasts_size])), (h4, .inl (cI, 8, .inl s_beasts_cells)), (h12, .inr (7, [.int (4 : Int32), .int (2 : Int32), .ref h13, .int s1_beasts_size])), (h13, .inl (cI, 8, .inl s1_beasts_cells))] H.size) [(h3, .inr (7, [.int (4 : Int32), .int (2 : Int32), .ref h4, .int s_beasts_size_2])), (h4, .inl (cI, 8, .inl s_beasts_cells_2)), (h12, .inr (7, [.int (4 : Int32), .int (2 : Int32), .ref h13, .int s1_beasts_size])), (h13, .inl (cI, 8, .inl s1_beasts_cells))] := hB.2
    obtain ⟨hP, hD⟩ := jn (wr := [(h0, .inr (5, [.ref r_kinds, .ref h1, .ref h3, .ref h5, .ref h7, .int s1_high, .int s1_low])), (h1, .inr (7, [.int (12 : Int32), .int (6 : Int32), .ref h2, .int s_passers_size_1])), (h2, .inl (cI, 72, .inl s_passers_cells_1)), (h5, .inr (7, [.int (5 : Int32), .int (3 : Int32), .ref h6, .int s_checks_size])), (h6, .inl (cI, 15, .inl s_checks_cells)), (h7, .inr (7, [.int (6 : Int32), .int (2 : Int32), .ref h8, .int s_looks_size])), (h8, .inl (cI, 12, .inl s_looks_cells)), (h9, .inr (5, [.ref r1_kinds, .ref h10, .ref h12, .ref h14, .ref h16, .int s1_high, .int s1_low])), (h10, .inr (7, [.int (12 : Int32), .int (6 : Int32), .ref h11, .int s1_passers_size])), (h11, .inl (cI, 72, .inl s1_passers_cells)), (h14, .inr (7, [.int (5 : Int32), .int (3 : Int32), .ref h15, .int s1_checks_size])), (h15, .inl (cI, 15, .inl s1_checks_cells)), (h16, .inr (7, [.int (6 : Int32), .int (2 : Int32), .ref h17, .int s1_looks_size])), (h17, .inl (cI, 12, .inl s1_looks_cells))]) (ws' := [(h0, .inr (5, [.ref r_kinds, .ref h1, .ref h3, .ref h5, .ref h7, .int s1_high, .int s1_low])), (h1, .inr (7, [.int (12 : Int32), .int (6 : Int32), .ref h2, .int s_passers_size_1])), (h2, .inl (cI, 72, .inl s_passers_cells_1)), (h3, .inr (7, [.int (4 : Int32), .int (2 : Int32), .ref h4, .int s_beasts_size_2])), (h4, .inl (cI, 8, .inl s_beasts_cells_2)), (h5, .inr (7, [.int (5 : Int32), .int (3 : Int32), .ref h6, .int s_checks_size])), (h6, .inl (cI, 15, .inl s_checks_cells)), (h7, .inr (7, [.int (6 : Int32), .int (2 : Int32), .ref h8, .int s_looks_size])), (h8, .inl (cI, 12, .inl s_looks_cells)), (h9, .inr (5, [.ref r1_kinds, .ref h10, .ref h12, .ref h14, .ref h16, .int s1_high, .int s1_low])), (h10, .inr (7, [.int (12 : Int32), .int (6 : Int32), .ref h11, .int s1_passers_size])), (h11, .inl (cI, 72, .inl s1_passers_cells)), (h12, .inr (7, [.int (4 : Int32), .int (2 : Int32), .ref h13, .int s1_beasts_size])), (h13, .inl (cI, 8, .inl s1_beasts_cells)), (h14, .inr (7, [.int (5 : Int32), .int (3 : Int32), .ref h15, .int s1_checks_size])), (h15, .inl (cI, 15, .inl s1_checks_cells)), (h16, .inr (7, [.int (6 : Int32), .int (2 : Int32), .ref h17, .int s1_looks_size])), (h17, .inl (cI, 12, .inl s1_looks_cells))]) hP hD [3, 4, 12, 13] [0, 1, 2, 5, 6, 7, 8, 9, 10, 11, 14, 15, 16, 17] rfl rfl (by decide) (by decide) hk1 hFc hP1 hD1 [0, 1, 2, 14, 15, 3, 4, 5, 6, 7, 8, 9, 16, 17, 10, 11, 12, 13] (by decide) rfl
    clear hP1 hD1 hB hk1 hz1 hvm ht hPc hDc hFc
    generalize H1 = H at hP hS ⊢
    try dsimp only at hf
    refine lv_aload_n hx hb dX5_become_38 rfl (lv_at hl 0 rfl) ?_
    refine va_get (D := (dC, dI)) (ci := 5) (v := .ref h5) (C := RX5) (T := TX5) (N := 7) hx hb hts iX5_become_X5 hown hK hP 0 rfl rfl 3 (by decide) (hts _ mX5_become_f23) (fun _ h9 => h9) rfl dX5_become_39 ?_
    refine lv_aload_n hx hb dX5_become_42 rfl (lv_at hl 1 rfl) ?_
    refine va_get (D := (dC, dI)) (ci := 5) (v := .ref h14) (C := RX5) (T := TX5) (N := 7) hx hb hts iX5_become_X5 hown hK hP 9 rfl rfl 3 (by decide) (hts _ mX5_become_f23) (fun _ h9 => h9) rfl dX5_become_43 ?_
    have hPc := hP.sub (ws' := [(h5, .inr (7, [.int (5 : Int32), .int (3 : Int32), .ref h6, .int s_checks_size])), (h6, .inl (cI, 15, .inl s_checks_cells)), (h14, .inr (7, [.int (5 : Int32), .int (3 : Int32), .ref h15, .int s1_checks_size])), (h15, .inl (cI, 15, .inl s1_checks_cells))]) [5, 6, 14, 15] rfl
    have hDc := hD.sub (ws' := [(h5, .inr (7, [.int (5 : Int32), .int (3 : Int32), .ref h6, .int s_checks_size])), (h6, .inl (cI, 15, .inl s_checks_cells)), (h14, .inr (7, [.int (5 : Int32), .int (3 : Int32), .ref h15, .int s1_checks_size])), (h15, .inl (cI, 15, .inl s1_checks_cells))]) [5, 6, 14, 15] (by decide) rfl
    have hFc := va_free (wc := [(h5, .inr (7, [.int (5 : Int32), .int (3 : Int32), .ref h6, .int s_checks_size])), (h6, .inl (cI, 15, .inl s_checks_cells)), (h14, .inr (7, [.int (5 : Int32), .int (3 : Int32), .ref h15, .int s1_checks_size])), (h15, .inl (cI, 15, .inl s1_checks_cells))]) hD hS hA [5, 6, 14, 15] rfl
    refine va_callv (va_runV (As := [.ref h14]) (rest := []) ⟨hx, hb, hml, hown, hts⟩ (metX7_become (sz := H.size) hf) (cwV 1 hts gX5_become_X7_become rfl rfl rfl ⟨rfl, kX7_become⟩ ⟨Nat.le_of_ble_eq_true rfl, Nat.le_of_ble_eq_true rfl⟩) ⟨PR.blind, va_recv hK hPc (ci := 7) (q0 := 0) rfl rfl, fun U hU hW => ⟨rfl, PR.go hU hW hPc hDc hK hN⟩⟩ rfl rfl hl.1 rfl (lv_room (Nat.le_of_ble_eq_true rfl)) dX5_become_46 ⟨Nat.zero_le _, Nat.zero_le _⟩) hS (fun q _ h => hFc q h) hFc (fun u t H1 locs ht hvm hf hB hz1 hk1 hS => ?_)
    obtain ⟨s_checks_size_3, s_checks_cells_3⟩ := u
    have hP1 : va_P (dC, dI) vwCl [(h5, .inr (7, [.int (5 : Int32), .int (3 : Int32), .ref h6, .int s_checks_size_3])), (h6, .inl (cI, 15, .inl s_checks_cells_3)), (h14, .inr (7, [.int (5 : Int32), .int (3 : Int32), .ref h15, .int s1_checks_size])), (h15, .inl (cI, 15, .inl s1_checks_cells))] H1 := by rw [← ht]; exact hB.1
    have hD1 : va_D (va_A [(h5, .inr (7, [.int (5 : Int32), .int (3 : Int32), .ref h6, .int s_checks_size])), (h6, .inl (cI, 15, .inl s_checks_cells)), (h14, .inr (7, [.int (5 : Int32), .int (3 : Int32), .ref h15, .int s1_checks_size])), (h15, .inl (cI, 15, .inl s1_checks_cells))] H.size) [(h5, .inr (7, [.int (5 : Int32), .int (3 : Int32), .ref h6, .int s_checks_size_3])), (h6, .inl (cI, 15, .inl s_checks_cells_3)), (h14, .inr (7, [.int (5 : Int32), .int (3 : Int32), .ref h15, .int s1_checks_size])), (h15, .inl (cI, 15, .inl s1_checks_cells))] := hB.2
    obtain ⟨hP, hD⟩ := jn (wr := [(h0, .inr (5, [.ref r_kinds, .ref h1, .ref h3, .ref h5, .ref h7, .int s1_high, .int s1_low])), (h1, .inr (7, [.int (12 : Int32), .int (6 : Int32), .ref h2, .int s_passers_size_1])), (h2, .inl (cI, 72, .inl s_passers_cells_1)), (h3, .inr (7, [.int (4 : Int32), .int (2 : Int32), .ref h4, .int s_beasts_size_2])), (h4, .inl (cI, 8, .inl s_beasts_cells_2)), (h7, .inr (7, [.int (6 : Int32), .int (2 : Int32), .ref h8, .int s_looks_size])), (h8, .inl (cI, 12, .inl s_looks_cells)), (h9, .inr (5, [.ref r1_kinds, .ref h10, .ref h12, .ref h14, .ref h16, .int s1_high, .int s1_low])), (h10, .inr (7, [.int (12 : Int32), .int (6 : Int32), .ref h11, .int s1_passers_size])), (h11, .inl (cI, 72, .inl s1_passers_cells)), (h12, .inr (7, [.int (4 : Int32), .int (2 : Int32), .ref h13, .int s1_beasts_size])), (h13, .inl (cI, 8, .inl s1_beasts_cells)), (h16, .inr (7, [.int (6 : Int32), .int (2 : Int32), .ref h17, .int s1_looks_size])), (h17, .inl (cI, 12, .inl s1_looks_cells))]) (ws' := [(h0, .inr (5, [.ref r_kinds, .ref h1, .ref h3, .ref h5, .ref h7, .int s1_high, .int s1_low])), (h1, .inr (7, [.int (12 : Int32), .int (6 : Int32), .ref h2, .int s_passers_size_1])), (h2, .inl (cI, 72, .inl s_passers_cells_1)), (h3, .inr (7, [.int (4 : Int32), .int (2 : Int32), .ref h4, .int s_beasts_size_2])), (h4, .inl (cI, 8, .inl s_beasts_cells_2)), (h5, .inr (7, [.int (5 : Int32), .int (3 : Int32), .ref h6, .int s_checks_size_3])), (h6, .inl (cI, 15, .inl s_checks_cells_3)), (h7, .inr (7, [.int (6 : Int32), .int (2 : Int32), .ref h8, .int s_looks_size])), (h8, .inl (cI, 12, .inl s_looks_cells)), (h9, .inr (5, [.ref r1_kinds, .ref h10, .ref h12, .ref h14, .ref h16, .int s1_high, .int s1_low])), (h10, .inr (7, [.int (12 : Int32), .int (6 : Int32), .ref h11, .int s1_passers_size])), (h11, .inl (cI, 72, .inl s1_passers_cells)), (h12, .inr (7, [.int (4 : Int32), .int (2 : Int32), .ref h13, .int s1_beasts_size])), (h13, .inl (cI, 8, .inl s1_beasts_cells)), (h14, .inr (7, [.int (5 : Int32), .int (3 : Int32), .ref h15, .int s1_checks_size])), (h15, .inl (cI, 15, .inl s1_checks_cells)), (h16, .inr (7, [.int (6 : Int32), .int (2 : Int32), .ref h17, .int s1_looks_size])), (h17, .inl (cI, 12, .inl s1_looks_cells))]) hP hD [5, 6, 14, 15] [0, 1, 2, 3, 4, 7, 8, 9, 10, 11, 12, 13, 16, 17] rfl rfl (by decide) (by decide) hk1 hFc hP1 hD1 [0, 1, 2, 3, 4, 14, 15, 5, 6, 7, 8, 9, 10, 11, 16, 17, 12, 13] (by decide) rfl
    clear hP1 hD1 hB hk1 hz1 hvm ht hPc hDc hFc
    generalize H1 = H at hP hS ⊢
    try dsimp only at hf
    refine lv_aload_n hx hb dX5_become_49 rfl (lv_at hl 0 rfl) ?_
    refine va_get (D := (dC, dI)) (ci := 5) (v := .ref h7) (C := RX5) (T := TX5) (N := 7) hx hb hts iX5_become_X5 hown hK hP 0 rfl rfl 4 (by decide) (hts _ mX5_become_f26) (fun _ h9 => h9) rfl dX5_become_50 ?_
    refine lv_aload_n hx hb dX5_become_53 rfl (lv_at hl 1 rfl) ?_
    refine va_get (D := (dC, dI)) (ci := 5) (v := .ref h16) (C := RX5) (T := TX5) (N := 7) hx hb hts iX5_become_X5 hown hK hP 9 rfl rfl 4 (by decide) (hts _ mX5_become_f26) (fun _ h9 => h9) rfl dX5_become_54 ?_
    have hPc := hP.sub (ws' := [(h7, .inr (7, [.int (6 : Int32), .int (2 : Int32), .ref h8, .int s_looks_size])), (h8, .inl (cI, 12, .inl s_looks_cells)), (h16, .inr (7, [.int (6 : Int32), .int (2 : Int32), .ref h17, .int s1_looks_size])), (h17, .inl (cI, 12, .inl s1_looks_cells))]) [7, 8, 16, 17] rfl
    have hDc := hD.sub (ws' := [(h7, .inr (7, [.int (6 : Int32), .int (2 : Int32), .ref h8, .int s_looks_size])), (h8, .inl (cI, 12, .inl s_looks_cells)), (h16, .inr (7, [.int (6 : Int32), .int (2 : Int32), .ref h17, .int s1_looks_size])), (h17, .inl (cI, 12, .inl s1_looks_cells))]) [7, 8, 16, 17] (by decide) rfl
    have hFc := va_free (wc := [(h7, .inr (7, [.int (6 : Int32), .int (2 : Int32), .ref h8, .int s_looks_size])), (h8, .inl (cI, 12, .inl s_looks_cells)), (h16, .inr (7, [.int (6 : Int32), .int (2 : Int32), .ref h17, .int s1_looks_size])), (h17, .inl (cI, 12, .inl s1_looks_cells))]) hD hS hA [7, 8, 16, 17] rfl
    refine va_callv (va_runV (As := [.ref h16]) (rest := []) ⟨hx, hb, hml, hown, hts⟩ (metX7_become (sz := H.size) hf) (cwV 1 hts gX5_become_X7_become rfl rfl rfl ⟨rfl, kX7_become⟩ ⟨Nat.le_of_ble_eq_true rfl, Nat.le_of_ble_eq_true rfl⟩) ⟨PR.blind, va_recv hK hPc (ci := 7) (q0 := 0) rfl rfl, fun U hU hW => ⟨rfl, PR.go hU hW hPc hDc hK hN⟩⟩ rfl rfl hl.1 rfl (lv_room (Nat.le_of_ble_eq_true rfl)) dX5_become_57 ⟨Nat.zero_le _, Nat.zero_le _⟩) hS (fun q _ h => hFc q h) hFc (fun u t H1 locs ht hvm hf hB hz1 hk1 hS => ?_)
    obtain ⟨s_looks_size_4, s_looks_cells_4⟩ := u
    have hP1 : va_P (dC, dI) vwCl [(h7, .inr (7, [.int (6 : Int32), .int (2 : Int32), .ref h8, .int s_looks_size_4])), (h8, .inl (cI, 12, .inl s_looks_cells_4)), (h16, .inr (7, [.int (6 : Int32), .int (2 : Int32), .ref h17, .int s1_looks_size])), (h17, .inl (cI, 12, .inl s1_looks_cells))] H1 := by rw [← ht]; exact hB.1
    have hD1 : va_D (va_A [(h7, .inr (7, [.int (6 : Int32), .int (2 : Int32), .ref h8, .int s_looks_size])), (h8, .inl (cI, 12, .inl s_looks_cells)), (h16, .inr (7, [.int (6 : Int32), .int (2 : Int32), .ref h17, .int s1_looks_size])), (h17, .inl (cI, 12, .inl s1_looks_cells))] H.size) [(h7, .inr (7, [.int (6 : Int32), .int (2 : Int32), .ref h8, .int s_looks_size_4])), (h8, .inl (cI, 12, .inl s_looks_cells_4)), (h16, .inr (7, [.int (6 : Int32), .int (2 : Int32), .ref h17, .int s1_looks_size])), (h17, .inl (cI, 12, .inl s1_looks_cells))] := hB.2
    obtain ⟨hP, hD⟩ := jn (wr := [(h0, .inr (5, [.ref r_kinds, .ref h1, .ref h3, .ref h5, .ref h7, .int s1_high, .int s1_low])), (h1, .inr (7, [.int (12 : Int32), .int (6 : Int32), .ref h2, .int s_passers_size_1])), (h2, .inl (cI, 72, .inl s_passers_cells_1)), (h3, .inr (7, [.int (4 : Int32), .int (2 : Int32), .ref h4, .int s_beasts_size_2])), (h4, .inl (cI, 8, .inl s_beasts_cells_2)), (h5, .inr (7, [.int (5 : Int32), .int (3 : Int32), .ref h6, .int s_checks_size_3])), (h6, .inl (cI, 15, .inl s_checks_cells_3)), (h9, .inr (5, [.ref r1_kinds, .ref h10, .ref h12, .ref h14, .ref h16, .int s1_high, .int s1_low])), (h10, .inr (7, [.int (12 : Int32), .int (6 : Int32), .ref h11, .int s1_passers_size])), (h11, .inl (cI, 72, .inl s1_passers_cells)), (h12, .inr (7, [.int (4 : Int32), .int (2 : Int32), .ref h13, .int s1_beasts_size])), (h13, .inl (cI, 8, .inl s1_beasts_cells)), (h14, .inr (7, [.int (5 : Int32), .int (3 : Int32), .ref h15, .int s1_checks_size])), (h15, .inl (cI, 15, .inl s1_checks_cells))]) (ws' := [(h0, .inr (5, [.ref r_kinds, .ref h1, .ref h3, .ref h5, .ref h7, .int s1_high, .int s1_low])), (h1, .inr (7, [.int (12 : Int32), .int (6 : Int32), .ref h2, .int s_passers_size_1])), (h2, .inl (cI, 72, .inl s_passers_cells_1)), (h3, .inr (7, [.int (4 : Int32), .int (2 : Int32), .ref h4, .int s_beasts_size_2])), (h4, .inl (cI, 8, .inl s_beasts_cells_2)), (h5, .inr (7, [.int (5 : Int32), .int (3 : Int32), .ref h6, .int s_checks_size_3])), (h6, .inl (cI, 15, .inl s_checks_cells_3)), (h7, .inr (7, [.int (6 : Int32), .int (2 : Int32), .ref h8, .int s_looks_size_4])), (h8, .inl (cI, 12, .inl s_looks_cells_4)), (h9, .inr (5, [.ref r1_kinds, .ref h10, .ref h12, .ref h14, .ref h16, .int s1_high, .int s1_low])), (h10, .inr (7, [.int (12 : Int32), .int (6 : Int32), .ref h11, .int s1_passers_size])), (h11, .inl (cI, 72, .inl s1_passers_cells)), (h12, .inr (7, [.int (4 : Int32), .int (2 : Int32), .ref h13, .int s1_beasts_size])), (h13, .inl (cI, 8, .inl s1_beasts_cells)), (h14, .inr (7, [.int (5 : Int32), .int (3 : Int32), .ref h15, .int s1_checks_size])), (h15, .inl (cI, 15, .inl s1_checks_cells)), (h16, .inr (7, [.int (6 : Int32), .int (2 : Int32), .ref h17, .int s1_looks_size])), (h17, .inl (cI, 12, .inl s1_looks_cells))]) hP hD [7, 8, 16, 17] [0, 1, 2, 3, 4, 5, 6, 9, 10, 11, 12, 13, 14, 15] rfl rfl (by decide) (by decide) hk1 hFc hP1 hD1 [0, 1, 2, 3, 4, 5, 6, 14, 15, 7, 8, 9, 10, 11, 12, 13, 16, 17] (by decide) rfl
    clear hP1 hD1 hB hk1 hz1 hvm ht hPc hDc hFc
    generalize H1 = H at hP hS ⊢
    try dsimp only at hf
    exact W.vret hx hb hr (fun t ht hW => ⟨⟨(s1_high, s1_low, s_passers_size_1, s_passers_cells_1, s_beasts_size_2, s_beasts_cells_2, s_checks_size_3, s_checks_cells_3, s_looks_size_4, s_looks_cells_4), rfl, hf, by rw [ht]; exact hP, hD⟩, hS.F ht⟩) hS.2.2 dX5_become_60
  rw [hH, hlo] at hG
  exact hG
set_option maxHeartbeats 4000000 in
set_option maxRecDepth 100000 in
theorem wX5_passedUntil_4 {p : Program} {e : Env} {s : State} {m : MethodId} {args : Array Value} {below : List Frame} {meth : Method} {c : Code} (C : CX p s m args meth c cX5_passedUntil 4 wsX5_passedUntil RX5 (some .int)) (hK : va_K (dC, dI) vwCl (TYS cI cL cB cZ cT cR) s) (hN : NW s) {h0 r_kinds r_beasts r_checks r_looks h1 h2 : Nat} {s_high s_low s_passers_size : Int32} {s_passers_cells : Nat → Int32} {k : Int32 → Prop} {kx : Int32 → Prop} (hP : va_P (dC, dI) vwCl [(h0, .inr (5, [.ref r_kinds, .ref h1, .ref r_beasts, .ref r_checks, .ref r_looks, .int s_high, .int s_low])), (h1, .inr (7, [.int (12 : Int32), .int (6 : Int32), .ref h2, .int s_passers_size])), (h2, .inl (cI, 72, .inl s_passers_cells))] s.heap) (hkx : ∀ (x2 : Int32) (ls : Array Slot), lv_has ls 4 [(0, .ref h0), (2, .int x2)] → kx x2 → W p l e ({ frames := 1, cells := 0, slots := 0, locals := 23 } : Room) s m args below meth c s.heap [] 0 0 (MQ below (roQi k) args s 0 0 (fun _ => False)) (F0 m 37 ls [])) : ∀ (n4 : Nat), ∀ (x1 : Int32) (x2 : Int32) (x3 : Int32) (ls : Array Slot), lv_has ls 4 [(0, .ref h0), (1, .int x1), (2, .int x2), (3, .int x3)] → pX5_passedUntil_4 s_passers_size s_passers_cells kx n4 x1 x2 x3 → W p l e ({ frames := 1, cells := 0, slots := 0, locals := 23 } : Room) s m args below meth c s.heap [] 0 0 (MQ below (roQi k) args s 0 0 (fun _ => False)) (F0 m 4 ls []) := by
  obtain ⟨hx, hb, hml, hown, hts, hr, hlocks⟩ := id C
  intro n4
  induction n4 with
  | zero =>
    intro x1 x2 x3 ls hl hf
    rw [pX5_passedUntil_4] at hf
    exact hf.elim
  | succ n4 ih =>
    intro x1 x2 x3 ls hl hf
    rw [pX5_passedUntil_4] at hf
    refine lv_iload_n hx hb dX5_passedUntil_4 rfl (lv_at hl 3 rfl) ?_
    refine lv_aload_n hx hb dX5_passedUntil_5 rfl (lv_at hl 0 rfl) ?_
    refine va_get (D := (dC, dI)) (ci := 5) (v := .ref h1) (C := RX5) (T := TX5) (N := 7) hx hb hts iX5_passedUntil_X5 hown hK hP 0 rfl rfl 1 (by decide) (hts _ mX5_passedUntil_f14) (fun _ h9 => h9) rfl dX5_passedUntil_6 ?_
    have hPc := hP.sub (ws' := [(h1, .inr (7, [.int (12 : Int32), .int (6 : Int32), .ref h2, .int s_passers_size]))]) [1] rfl
    refine ro_calli (va_runV (As := []) (rest := [.int x3]) ⟨hx, hb, hml, hown, hts⟩ (metX7_size hf) (cwV 0 hts gX5_passedUntil_X7_size rfl rfl rfl ⟨rfl, kX7_size⟩ ⟨Nat.le_of_ble_eq_true rfl, Nat.le_of_ble_eq_true rfl⟩) ⟨PW.blind, va_recv hK hPc (ci := 7) (q0 := 0) rfl rfl, fun U hU hW => ⟨rfl, PW.go hU hW hPc hK hN⟩⟩ rfl rfl hl.1 rfl (lv_room (Nat.le_of_ble_eq_true rfl)) dX5_passedUntil_9 ⟨Nat.zero_le _, Nat.zero_le _⟩) (fun r_1 hf => ?_)
    refine lv_icmp_ge (tgt := 37) hx hb dX5_passedUntil_12 (by decide) (fun c_2 => ?_) (fun c_2 => ?_)
    · replace hf := hf.1 c_2
      exact hkx x2 ls (lv_sub hl [0, 2] rfl) hf
    · replace hf := hf.2 c_2
      refine lv_aload_n hx hb dX5_passedUntil_15 rfl (lv_at hl 0 rfl) ?_
      refine va_get (D := (dC, dI)) (ci := 5) (v := .ref h1) (C := RX5) (T := TX5) (N := 7) hx hb hts iX5_passedUntil_X5 hown hK hP 0 rfl rfl 1 (by decide) (hts _ mX5_passedUntil_f14) (fun _ h9 => h9) rfl dX5_passedUntil_16 ?_
      refine lv_iload_n hx hb dX5_passedUntil_19 rfl (lv_at hl 3 rfl) ?_
      refine lv_iconst (v := (0 : Int32)) hx hb dX5_passedUntil_20 (by decide) ?_
      have hPc := hP.sub (ws' := [(h1, .inr (7, [.int (12 : Int32), .int (6 : Int32), .ref h2, .int s_passers_size])), (h2, .inl (cI, 72, .inl s_passers_cells))]) [1, 2] rfl
      refine ro_calli (va_runV (As := [.int x3, .int (0 : Int32)]) (rest := []) ⟨hx, hb, hml, hown, hts⟩ (metX7_at hf) (cwV 2 hts gX5_passedUntil_X7_at rfl rfl rfl ⟨rfl, kX7_at⟩ ⟨Nat.le_of_ble_eq_true rfl, Nat.le_of_ble_eq_true rfl⟩) ⟨PW.blind, va_recv hK hPc (ci := 7) (q0 := 0) rfl rfl, fun U hU hW => ⟨rfl, PW.go hU hW hPc hK hN⟩⟩ rfl rfl hl.1 rfl (lv_room (Nat.le_of_ble_eq_true rfl)) dX5_passedUntil_21 ⟨Nat.zero_le _, Nat.zero_le _⟩) (fun r_3 hf => ?_)
      refine lv_iload_n hx hb dX5_passedUntil_24 rfl (lv_at hl 1 rfl) ?_
      refine lv_icmp_gt (tgt := 31) hx hb dX5_passedUntil_25 (by decide) (fun c_4 => ?_) (fun c_4 => ?_)
      · replace hf := hf.1 c_4
        refine lv_iinc (v := (x3 + 1)) (lv' := [(3, .int (x3 + 1)), (0, .ref h0), (1, .int x1), (2, .int x2)]) hx hb dX5_passedUntil_31 hl (k := 3) rfl (by rfl) (by decide) rfl (fun ls hl => ?_)
        refine lv_goto (tgt := 4) hx hb dX5_passedUntil_34 (by decide) ?_
        exact ih x1 x2 (x3 + 1) ls (lv_sub hl [1, 2, 3, 0] rfl) hf
      · replace hf := hf.2 c_4
        refine lv_iinc (v := (x2 + 1)) (lv' := [(2, .int (x2 + 1)), (0, .ref h0), (1, .int x1), (3, .int x3)]) hx hb dX5_passedUntil_28 hl (k := 2) rfl (by rfl) (by decide) rfl (fun ls hl => ?_)
        refine lv_iinc (v := (x3 + 1)) (lv' := [(3, .int (x3 + 1)), (2, .int (x2 + 1)), (0, .ref h0), (1, .int x1)]) hx hb dX5_passedUntil_31 hl (k := 3) rfl (by rfl) (by decide) rfl (fun ls hl => ?_)
        refine lv_goto (tgt := 4) hx hb dX5_passedUntil_34 (by decide) ?_
        exact ih x1 (x2 + 1) (x3 + 1) ls (lv_sub hl [2, 3, 1, 0] rfl) hf
set_option maxHeartbeats 4000000 in
set_option maxRecDepth 100000 in
theorem metX5_passedUntil {h0 r_kinds r_beasts r_checks r_looks h1 h2 : Nat} {s_high s_low s_passers_size : Int32} {s_passers_cells : Nat → Int32} {a1 : Int32} {k : Int32 → Prop} (hf : pX5_passedUntil s_passers_size s_passers_cells a1 k) : Met l yX5_passedUntil wsX5_passedUntil ({ frames := 1, cells := 0, slots := 0, locals := 23 } : Room) (va_Pc [.ref h0, .int a1] (PW dC dI (TYS cI cL cB cZ cT cR) [(h0, .inr (5, [.ref r_kinds, .ref h1, .ref r_beasts, .ref r_checks, .ref r_looks, .int s_high, .int s_low])), (h1, .inr (7, [.int (12 : Int32), .int (6 : Int32), .ref h2, .int s_passers_size])), (h2, .inl (cI, 72, .inl s_passers_cells))])) (roQi k) 0 0 (fun _ => False) := by
  refine Met.ofW (cc := cX5_passedUntil) (maxL := 4) (ret := (some .int)) (by decide) rfl ?_
  intro p e s m args below meth c s₁ B hml hv
  obtain ⟨rfl, hP, hK, hN⟩ := hv
  have C : CX p s m _ meth c cX5_passedUntil 4 wsX5_passedUntil RX5 (some .int) := ⟨B.exec, B.bytes, hml, findClass_of_methodNamed B.named, atoms_spec (ws := wsX5_passedUntil) B.pre, B.returns, B.notSynchronized⟩
  obtain ⟨hx, hb, -, hown, hts, hr, hlocks⟩ := id C
  have hl := lv_entry ([.ref h0, .int a1]) (n := 4) (Nat.le_of_ble_eq_true rfl)
  rw [lg_entry_eq]
  generalize (lg_sl ([.ref h0, .int a1]) ++ List.replicate (4 - (lg_sl ([.ref h0, .int a1])).length) Slot.unset).toArray = ls at hl ⊢
  have hl : lv_has ls 4 [(0, .ref h0), (1, .int a1)] := hl
  unfold pX5_passedUntil at hf
  refine lv_iconst (v := (0 : Int32)) hx hb dX5_passedUntil_0 (by decide) ?_
  refine lv_istore_n (lv' := [(2, .int (0 : Int32)), (0, .ref h0), (1, .int a1)]) hx hb dX5_passedUntil_1 rfl hl (by decide) rfl (fun ls hl => ?_)
  refine lv_iconst (v := (0 : Int32)) hx hb dX5_passedUntil_2 (by decide) ?_
  refine lv_istore_n (lv' := [(3, .int (0 : Int32)), (2, .int (0 : Int32)), (0, .ref h0), (1, .int a1)]) hx hb dX5_passedUntil_3 rfl hl (by decide) rfl (fun ls hl => ?_)
  obtain ⟨n4, hf⟩ := hf
  refine wX5_passedUntil_4 C hK hN hP (fun x2_5 ls hl hf => ?_) n4 a1 (0 : Int32) (0 : Int32) ls (lv_sub hl [2, 3, 1, 0] rfl) hf
  refine lv_iload_n hx hb dX5_passedUntil_37 rfl (lv_at hl 1 rfl) ?_
  exact W.iret (v := x2_5) hx hb hr (fun t ht hW => ⟨x2_5, rfl, hf, ht⟩) (fun q h => by cases h) dX5_passedUntil_38
set_option maxHeartbeats 4000000 in
set_option maxRecDepth 100000 in
theorem metX5_firstStand {h0 r_kinds r_passers r_beasts r_checks r_looks : Nat} {s_high s_low : Int32}  {k : Int32 → Prop} (hf : pX5_firstStand s_high k) : Met l yX5_firstStand wsX5_firstStand ({ frames := 1, cells := 0, slots := 0, locals := 21 } : Room) (va_Pc [.ref h0] (PW dC dI (TYS cI cL cB cZ cT cR) [(h0, .inr (5, [.ref r_kinds, .ref r_passers, .ref r_beasts, .ref r_checks, .ref r_looks, .int s_high, .int s_low]))])) (roQi k) 0 0 (fun _ => False) := by
  refine Met.ofW (cc := cX5_firstStand) (maxL := 1) (ret := (some .int)) (by decide) rfl ?_
  intro p e s m args below meth c s₁ B hml hv
  obtain ⟨rfl, hP, hK, hN⟩ := hv
  have C : CX p s m _ meth c cX5_firstStand 1 wsX5_firstStand RX5 (some .int) := ⟨B.exec, B.bytes, hml, findClass_of_methodNamed B.named, atoms_spec (ws := wsX5_firstStand) B.pre, B.returns, B.notSynchronized⟩
  obtain ⟨hx, hb, -, hown, hts, hr, hlocks⟩ := id C
  have hl := lv_entry ([.ref h0]) (n := 1) (Nat.le_of_ble_eq_true rfl)
  rw [lg_entry_eq]
  generalize (lg_sl ([.ref h0]) ++ List.replicate (1 - (lg_sl ([.ref h0])).length) Slot.unset).toArray = ls at hl ⊢
  have hl : lv_has ls 1 [(0, .ref h0)] := hl
  unfold pX5_firstStand at hf
  refine lv_aload_n hx hb dX5_firstStand_0 rfl (lv_at hl 0 rfl) ?_
  refine va_get (D := (dC, dI)) (ci := 5) (v := .int s_high) (C := RX5) (T := TX5) (N := 7) hx hb hts iX5_firstStand_X5 hown hK hP 0 rfl rfl 5 (by decide) (hts _ mX5_firstStand_f29) (fun _ h9 => h9) rfl dX5_firstStand_1 ?_
  refine lv_iconst (v := (0 : Int32)) hx hb dX5_firstStand_4 (by decide) ?_
  have hPc := hP.sub (ws' := []) [] rfl
  refine ro_calli (va_runSN (As := [.int s_high, .int (0 : Int32)]) (rest := []) ⟨hx, hb, hml, hown, hts⟩ (metX11_stand hf) ⟨va_cnB 2 hts gX5_firstStand_X11_stand_n70 rfl rfl rfl (hN _ nwm_3) (hts _ mX5_firstStand_iX11) kX11_stand ⟨Nat.le_of_ble_eq_true rfl, Nat.le_of_ble_eq_true rfl⟩, hts _ mX5_firstStand_sX11_stand, trivial⟩ ⟨PW.blind, fun U hU hW => ⟨rfl, PW.go hU hW hPc hK hN⟩⟩ rfl rfl hl.1 rfl (lv_room (Nat.le_of_ble_eq_true rfl)) dX5_firstStand_5 ⟨Nat.zero_le _, Nat.zero_le _⟩) (fun r_1 hf => ?_)
  exact W.iret (v := r_1) hx hb hr (fun t ht hW => ⟨r_1, rfl, hf, ht⟩) (fun q h => by cases h) dX5_firstStand_8
set_option maxHeartbeats 4000000 in
set_option maxRecDepth 100000 in
theorem metX5_deed {h0 r_beasts r_checks r_looks h1 h2 h3 h4 h5 h6 h7 h8 h9 : Nat} {s_high s_low s_passers_size : Int32} {s_passers_cells : Nat → Int32} {a1 : Int32} {a2 : Int32} {a3 : Int32} {k : Int32 → Prop} (hf : pX5_deed s_passers_cells a1 a2 a3 k) : Met l yX5_deed wsX5_deed ({ frames := 3, cells := 0, slots := 0, locals := 72 } : Room) (va_Pc [.ref h0, .int a1, .int a2, .int a3] (PW dC dI (TYS cI cL cB cZ cT cR) [(h0, .inr (5, [.ref h1, .ref h8, .ref r_beasts, .ref r_checks, .ref r_looks, .int s_high, .int s_low])), (h1, .inl (cT, 6, .inr (.inr (.inr (.inr (kd h2 h3 h4 h5 h6 h7)))))), (h2, .inr (9, [])), (h3, .inr (4, [])), (h4, .inr (10, [])), (h5, .inr (2, [])), (h6, .inr (1, [])), (h7, .inr (0, [])), (h8, .inr (7, [.int (12 : Int32), .int (6 : Int32), .ref h9, .int s_passers_size])), (h9, .inl (cI, 72, .inl s_passers_cells))])) (roQi k) 0 0 (fun _ => False) := by
  refine Met.ofW (cc := cX5_deed) (maxL := 6) (ret := (some .int)) (by decide) rfl ?_
  intro p e s m args below meth c s₁ B hml hv
  obtain ⟨rfl, hP, hK, hN⟩ := hv
  have C : CX p s m _ meth c cX5_deed 6 wsX5_deed RX5 (some .int) := ⟨B.exec, B.bytes, hml, findClass_of_methodNamed B.named, atoms_spec (ws := wsX5_deed) B.pre, B.returns, B.notSynchronized⟩
  obtain ⟨hx, hb, -, hown, hts, hr, hlocks⟩ := id C
  have hl := lv_entry ([.ref h0, .int a1, .int a2, .int a3]) (n := 6) (Nat.le_of_ble_eq_true rfl)
  rw [lg_entry_eq]
  generalize (lg_sl ([.ref h0, .int a1, .int a2, .int a3]) ++ List.replicate (6 - (lg_sl ([.ref h0, .int a1, .int a2, .int a3])).length) Slot.unset).toArray = ls at hl ⊢
  have hl : lv_has ls 6 [(0, .ref h0), (1, .int a1), (2, .int a2), (3, .int a3)] := hl
  unfold pX5_deed at hf
  refine lv_aload_n hx hb dX5_deed_0 rfl (lv_at hl 0 rfl) ?_
  refine va_get (D := (dC, dI)) (ci := 5) (v := .ref h8) (C := RX5) (T := TX5) (N := 7) hx hb hts iX5_deed_X5 hown hK hP 0 rfl rfl 1 (by decide) (hts _ mX5_deed_f14) (fun _ h9 => h9) rfl dX5_deed_1 ?_
  refine lv_iload_n hx hb dX5_deed_4 rfl (lv_at hl 1 rfl) ?_
  refine lv_iconst (v := (1 : Int32)) hx hb dX5_deed_5 (by decide) ?_
  have hPc := hP.sub (ws' := [(h8, .inr (7, [.int (12 : Int32), .int (6 : Int32), .ref h9, .int s_passers_size])), (h9, .inl (cI, 72, .inl s_passers_cells))]) [8, 9] rfl
  refine ro_calli (va_runV (As := [.int a1, .int (1 : Int32)]) (rest := []) ⟨hx, hb, hml, hown, hts⟩ (metX7_at hf) (cwV 2 hts gX5_deed_X7_at rfl rfl rfl ⟨rfl, kX7_at⟩ ⟨Nat.le_of_ble_eq_true rfl, Nat.le_of_ble_eq_true rfl⟩) ⟨PW.blind, va_recv hK hPc (ci := 7) (q0 := 0) rfl rfl, fun U hU hW => ⟨rfl, PW.go hU hW hPc hK hN⟩⟩ rfl rfl hl.1 rfl (lv_room (Nat.le_of_ble_eq_true rfl)) dX5_deed_6 ⟨Nat.zero_le _, Nat.zero_le _⟩) (fun r_1 hf => ?_)
  refine lv_istore (lv' := [(4, .int r_1), (0, .ref h0), (1, .int a1), (2, .int a2), (3, .int a3)]) hx hb dX5_deed_9 hl (by decide) rfl (fun ls hl => ?_)
  refine lv_iload hx hb dX5_deed_11 (lv_at hl 0 rfl) ?_
  refine lv_if_lt (tgt := 36) hx hb dX5_deed_13 (by decide) (fun c_2 => ?_) (fun c_2 => ?_)
  · replace hf := hf.1 c_2
    refine lv_iconst (v := (0 : Int32)) hx hb dX5_deed_36 (by decide) ?_
    exact W.iret (v := (0 : Int32)) hx hb hr (fun t ht hW => ⟨(0 : Int32), rfl, hf, ht⟩) (fun q h => by cases h) dX5_deed_37
  · replace hf := hf.2 c_2
    refine lv_iload hx hb dX5_deed_16 (lv_at hl 0 rfl) ?_
    refine lv_aload_n hx hb dX5_deed_18 rfl (lv_at hl 1 rfl) ?_
    refine va_get (D := (dC, dI)) (ci := 5) (v := .ref h1) (C := RX5) (T := TX5) (N := 7) hx hb hts iX5_deed_X5 hown hK hP 0 rfl rfl 0 (by decide) (hts _ mX5_deed_f36) (fun _ h9 => h9) rfl dX5_deed_19 ?_
    refine va_alen (v := (6 : Int32)) hx hb hK hP 1 4 rfl rfl rfl dX5_deed_22 ?_
    refine lv_icmp_ge (tgt := 36) hx hb dX5_deed_23 (by decide) (fun c_3 => ?_) (fun c_3 => ?_)
    · replace hf := hf.1 c_3
      refine lv_iconst (v := (0 : Int32)) hx hb dX5_deed_36 (by decide) ?_
      exact W.iret (v := (0 : Int32)) hx hb hr (fun t ht hW => ⟨(0 : Int32), rfl, hf, ht⟩) (fun q h => by cases h) dX5_deed_37
    · replace hf := hf.2 c_3
      refine lv_aload_n hx hb dX5_deed_26 rfl (lv_at hl 1 rfl) ?_
      refine va_get (D := (dC, dI)) (ci := 5) (v := .ref h1) (C := RX5) (T := TX5) (N := 7) hx hb hts iX5_deed_X5 hown hK hP 0 rfl rfl 0 (by decide) (hts _ mX5_deed_f36) (fun _ h9 => h9) rfl dX5_deed_27 ?_
      refine lv_iload hx hb dX5_deed_30 (lv_at hl 0 rfl) ?_
      obtain ⟨h_4, hf⟩ := hf
      rcases k6 h_4 with rfl | rfl | rfl | rfl | rfl | rfl
      · replace hf := hf.1 rfl
        refine va_aldq hx hb hK hP 1 4 rfl rfl (show ¬ _ by decide) dX5_deed_32 ?_
        refine W.eq (g2 := F0 m 33 ls [.ref h2]) rfl ?_
        refine lv_ifnonnull (tgt := 38) hx hb dX5_deed_33 (by decide) ?_
        refine lv_aload_n hx hb dX5_deed_38 rfl (lv_at hl 1 rfl) ?_
        refine va_get (D := (dC, dI)) (ci := 5) (v := .ref h8) (C := RX5) (T := TX5) (N := 7) hx hb hts iX5_deed_X5 hown hK hP 0 rfl rfl 1 (by decide) (hts _ mX5_deed_f14) (fun _ h9 => h9) rfl dX5_deed_39 ?_
        refine lv_iload_n hx hb dX5_deed_42 rfl (lv_at hl 2 rfl) ?_
        refine lv_iconst (v := (0 : Int32)) hx hb dX5_deed_43 (by decide) ?_
        have hPc := hP.sub (ws' := [(h8, .inr (7, [.int (12 : Int32), .int (6 : Int32), .ref h9, .int s_passers_size])), (h9, .inl (cI, 72, .inl s_passers_cells))]) [8, 9] rfl
        refine ro_calli (va_runV (As := [.int a1, .int (0 : Int32)]) (rest := []) ⟨hx, hb, hml, hown, hts⟩ (metX7_at hf) (cwV 2 hts gX5_deed_X7_at rfl rfl rfl ⟨rfl, kX7_at⟩ ⟨Nat.le_of_ble_eq_true rfl, Nat.le_of_ble_eq_true rfl⟩) ⟨PW.blind, va_recv hK hPc (ci := 7) (q0 := 0) rfl rfl, fun U hU hW => ⟨rfl, PW.go hU hW hPc hK hN⟩⟩ rfl rfl hl.1 rfl (lv_room (Nat.le_of_ble_eq_true rfl)) dX5_deed_44 ⟨Nat.zero_le _, Nat.zero_le _⟩) (fun r_5 hf => ?_)
        refine lv_istore (lv' := [(5, .int r_5), (4, .int (0 : Int32)), (0, .ref h0), (1, .int a1), (2, .int a2), (3, .int a3)]) hx hb dX5_deed_47 hl (by decide) rfl (fun ls hl => ?_)
        refine lv_aload_n hx hb dX5_deed_49 rfl (lv_at hl 2 rfl) ?_
        refine va_get (D := (dC, dI)) (ci := 5) (v := .ref h1) (C := RX5) (T := TX5) (N := 7) hx hb hts iX5_deed_X5 hown hK hP 0 rfl rfl 0 (by decide) (hts _ mX5_deed_f36) (fun _ h9 => h9) rfl dX5_deed_50 ?_
        refine lv_iload hx hb dX5_deed_53 (lv_at hl 1 rfl) ?_
        refine va_aldq hx hb hK hP 1 4 rfl rfl (show ¬ _ by decide) dX5_deed_55 ?_
        refine W.eq (g2 := F0 m 56 ls [.ref h2]) rfl ?_
        refine lv_iload hx hb dX5_deed_56 (lv_at hl 0 rfl) ?_
        refine lv_aload_n hx hb dX5_deed_58 rfl (lv_at hl 2 rfl) ?_
        refine va_get (D := (dC, dI)) (ci := 5) (v := .ref h8) (C := RX5) (T := TX5) (N := 7) hx hb hts iX5_deed_X5 hown hK hP 0 rfl rfl 1 (by decide) (hts _ mX5_deed_f14) (fun _ h9 => h9) rfl dX5_deed_59 ?_
        refine lv_iload_n hx hb dX5_deed_62 rfl (lv_at hl 3 rfl) ?_
        refine lv_iconst (v := (2 : Int32)) hx hb dX5_deed_63 (by decide) ?_
        have hPc := hP.sub (ws' := [(h8, .inr (7, [.int (12 : Int32), .int (6 : Int32), .ref h9, .int s_passers_size])), (h9, .inl (cI, 72, .inl s_passers_cells))]) [8, 9] rfl
        refine ro_calli (va_runV (As := [.int a1, .int (2 : Int32)]) (rest := [.int r_5, .ref h2]) ⟨hx, hb, hml, hown, hts⟩ (metX7_at hf) (cwV 2 hts gX5_deed_X7_at rfl rfl rfl ⟨rfl, kX7_at⟩ ⟨Nat.le_of_ble_eq_true rfl, Nat.le_of_ble_eq_true rfl⟩) ⟨PW.blind, va_recv hK hPc (ci := 7) (q0 := 0) rfl rfl, fun U hU hW => ⟨rfl, PW.go hU hW hPc hK hN⟩⟩ rfl rfl hl.1 rfl (lv_room (Nat.le_of_ble_eq_true rfl)) dX5_deed_64 ⟨Nat.zero_le _, Nat.zero_le _⟩) (fun r_6 hf => ?_)
        refine lv_aload_n hx hb dX5_deed_67 rfl (lv_at hl 2 rfl) ?_
        refine va_get (D := (dC, dI)) (ci := 5) (v := .ref h8) (C := RX5) (T := TX5) (N := 7) hx hb hts iX5_deed_X5 hown hK hP 0 rfl rfl 1 (by decide) (hts _ mX5_deed_f14) (fun _ h9 => h9) rfl dX5_deed_68 ?_
        refine lv_iload_n hx hb dX5_deed_71 rfl (lv_at hl 3 rfl) ?_
        refine lv_iconst (v := (3 : Int32)) hx hb dX5_deed_72 (by decide) ?_
        have hPc := hP.sub (ws' := [(h8, .inr (7, [.int (12 : Int32), .int (6 : Int32), .ref h9, .int s_passers_size])), (h9, .inl (cI, 72, .inl s_passers_cells))]) [8, 9] rfl
        refine ro_calli (va_runV (As := [.int a1, .int (3 : Int32)]) (rest := [.int r_6, .int r_5, .ref h2]) ⟨hx, hb, hml, hown, hts⟩ (metX7_at hf) (cwV 2 hts gX5_deed_X7_at rfl rfl rfl ⟨rfl, kX7_at⟩ ⟨Nat.le_of_ble_eq_true rfl, Nat.le_of_ble_eq_true rfl⟩) ⟨PW.blind, va_recv hK hPc (ci := 7) (q0 := 0) rfl rfl, fun U hU hW => ⟨rfl, PW.go hU hW hPc hK hN⟩⟩ rfl rfl hl.1 rfl (lv_room (Nat.le_of_ble_eq_true rfl)) dX5_deed_73 ⟨Nat.zero_le _, Nat.zero_le _⟩) (fun r_7 hf => ?_)
        refine lv_iload_n hx hb dX5_deed_76 rfl (lv_at hl 4 rfl) ?_
        refine lv_iload_n hx hb dX5_deed_77 rfl (lv_at hl 5 rfl) ?_
        have hPc := hP.sub (ws' := [(h2, .inr (9, []))]) [2] rfl
        refine ro_calli (va_runV (As := [.int r_5, .int r_6, .int r_7, .int a2, .int a3]) (rest := []) ⟨hx, hb, hml, hown, hts⟩ (metX9_act hf) (cwV 5 hts gX5_deed_X9_act rfl rfl rfl ⟨rfl, kX9_act⟩ ⟨Nat.le_of_ble_eq_true rfl, Nat.le_of_ble_eq_true rfl⟩) ⟨PW.blind, va_recv hK hPc (ci := 9) (q0 := 0) rfl rfl, fun U hU hW => ⟨rfl, PW.go hU hW hPc hK hN⟩⟩ rfl rfl hl.1 rfl (lv_room (Nat.le_of_ble_eq_true rfl)) dX5_deed_78 ⟨Nat.zero_le _, Nat.zero_le _⟩) (fun r_8 hf => ?_)
        exact W.iret (v := r_8) hx hb hr (fun t ht hW => ⟨r_8, rfl, hf, ht⟩) (fun q h => by cases h) dX5_deed_81
      · replace hf := hf.2.1 rfl
        refine va_aldq hx hb hK hP 1 4 rfl rfl (show ¬ _ by decide) dX5_deed_32 ?_
        refine W.eq (g2 := F0 m 33 ls [.ref h3]) rfl ?_
        refine lv_ifnonnull (tgt := 38) hx hb dX5_deed_33 (by decide) ?_
        refine lv_aload_n hx hb dX5_deed_38 rfl (lv_at hl 1 rfl) ?_
        refine va_get (D := (dC, dI)) (ci := 5) (v := .ref h8) (C := RX5) (T := TX5) (N := 7) hx hb hts iX5_deed_X5 hown hK hP 0 rfl rfl 1 (by decide) (hts _ mX5_deed_f14) (fun _ h9 => h9) rfl dX5_deed_39 ?_
        refine lv_iload_n hx hb dX5_deed_42 rfl (lv_at hl 2 rfl) ?_
        refine lv_iconst (v := (0 : Int32)) hx hb dX5_deed_43 (by decide) ?_
        have hPc := hP.sub (ws' := [(h8, .inr (7, [.int (12 : Int32), .int (6 : Int32), .ref h9, .int s_passers_size])), (h9, .inl (cI, 72, .inl s_passers_cells))]) [8, 9] rfl
        refine ro_calli (va_runV (As := [.int a1, .int (0 : Int32)]) (rest := []) ⟨hx, hb, hml, hown, hts⟩ (metX7_at hf) (cwV 2 hts gX5_deed_X7_at rfl rfl rfl ⟨rfl, kX7_at⟩ ⟨Nat.le_of_ble_eq_true rfl, Nat.le_of_ble_eq_true rfl⟩) ⟨PW.blind, va_recv hK hPc (ci := 7) (q0 := 0) rfl rfl, fun U hU hW => ⟨rfl, PW.go hU hW hPc hK hN⟩⟩ rfl rfl hl.1 rfl (lv_room (Nat.le_of_ble_eq_true rfl)) dX5_deed_44 ⟨Nat.zero_le _, Nat.zero_le _⟩) (fun r_9 hf => ?_)
        refine lv_istore (lv' := [(5, .int r_9), (4, .int (1 : Int32)), (0, .ref h0), (1, .int a1), (2, .int a2), (3, .int a3)]) hx hb dX5_deed_47 hl (by decide) rfl (fun ls hl => ?_)
        refine lv_aload_n hx hb dX5_deed_49 rfl (lv_at hl 2 rfl) ?_
        refine va_get (D := (dC, dI)) (ci := 5) (v := .ref h1) (C := RX5) (T := TX5) (N := 7) hx hb hts iX5_deed_X5 hown hK hP 0 rfl rfl 0 (by decide) (hts _ mX5_deed_f36) (fun _ h9 => h9) rfl dX5_deed_50 ?_
        refine lv_iload hx hb dX5_deed_53 (lv_at hl 1 rfl) ?_
        refine va_aldq hx hb hK hP 1 4 rfl rfl (show ¬ _ by decide) dX5_deed_55 ?_
        refine W.eq (g2 := F0 m 56 ls [.ref h3]) rfl ?_
        refine lv_iload hx hb dX5_deed_56 (lv_at hl 0 rfl) ?_
        refine lv_aload_n hx hb dX5_deed_58 rfl (lv_at hl 2 rfl) ?_
        refine va_get (D := (dC, dI)) (ci := 5) (v := .ref h8) (C := RX5) (T := TX5) (N := 7) hx hb hts iX5_deed_X5 hown hK hP 0 rfl rfl 1 (by decide) (hts _ mX5_deed_f14) (fun _ h9 => h9) rfl dX5_deed_59 ?_
        refine lv_iload_n hx hb dX5_deed_62 rfl (lv_at hl 3 rfl) ?_
        refine lv_iconst (v := (2 : Int32)) hx hb dX5_deed_63 (by decide) ?_
        have hPc := hP.sub (ws' := [(h8, .inr (7, [.int (12 : Int32), .int (6 : Int32), .ref h9, .int s_passers_size])), (h9, .inl (cI, 72, .inl s_passers_cells))]) [8, 9] rfl
        refine ro_calli (va_runV (As := [.int a1, .int (2 : Int32)]) (rest := [.int r_9, .ref h3]) ⟨hx, hb, hml, hown, hts⟩ (metX7_at hf) (cwV 2 hts gX5_deed_X7_at rfl rfl rfl ⟨rfl, kX7_at⟩ ⟨Nat.le_of_ble_eq_true rfl, Nat.le_of_ble_eq_true rfl⟩) ⟨PW.blind, va_recv hK hPc (ci := 7) (q0 := 0) rfl rfl, fun U hU hW => ⟨rfl, PW.go hU hW hPc hK hN⟩⟩ rfl rfl hl.1 rfl (lv_room (Nat.le_of_ble_eq_true rfl)) dX5_deed_64 ⟨Nat.zero_le _, Nat.zero_le _⟩) (fun r_10 hf => ?_)
        refine lv_aload_n hx hb dX5_deed_67 rfl (lv_at hl 2 rfl) ?_
        refine va_get (D := (dC, dI)) (ci := 5) (v := .ref h8) (C := RX5) (T := TX5) (N := 7) hx hb hts iX5_deed_X5 hown hK hP 0 rfl rfl 1 (by decide) (hts _ mX5_deed_f14) (fun _ h9 => h9) rfl dX5_deed_68 ?_
        refine lv_iload_n hx hb dX5_deed_71 rfl (lv_at hl 3 rfl) ?_
        refine lv_iconst (v := (3 : Int32)) hx hb dX5_deed_72 (by decide) ?_
        have hPc := hP.sub (ws' := [(h8, .inr (7, [.int (12 : Int32), .int (6 : Int32), .ref h9, .int s_passers_size])), (h9, .inl (cI, 72, .inl s_passers_cells))]) [8, 9] rfl
        refine ro_calli (va_runV (As := [.int a1, .int (3 : Int32)]) (rest := [.int r_10, .int r_9, .ref h3]) ⟨hx, hb, hml, hown, hts⟩ (metX7_at hf) (cwV 2 hts gX5_deed_X7_at rfl rfl rfl ⟨rfl, kX7_at⟩ ⟨Nat.le_of_ble_eq_true rfl, Nat.le_of_ble_eq_true rfl⟩) ⟨PW.blind, va_recv hK hPc (ci := 7) (q0 := 0) rfl rfl, fun U hU hW => ⟨rfl, PW.go hU hW hPc hK hN⟩⟩ rfl rfl hl.1 rfl (lv_room (Nat.le_of_ble_eq_true rfl)) dX5_deed_73 ⟨Nat.zero_le _, Nat.zero_le _⟩) (fun r_11 hf => ?_)
        refine lv_iload_n hx hb dX5_deed_76 rfl (lv_at hl 4 rfl) ?_
        refine lv_iload_n hx hb dX5_deed_77 rfl (lv_at hl 5 rfl) ?_
        have hPc := hP.sub (ws' := [(h3, .inr (4, []))]) [3] rfl
        refine ro_calli (va_runU (As := [.int r_9, .int r_10, .int r_11, .int a2, .int a3]) (rest := []) ⟨hx, hb, hml, hown, hts⟩ (metX4_act hf) (va_cwO 5 hts gX5_deed_X4_act_u99X4 rfl rfl rfl mX5_deed_cTaker kX9_act ⟨Nat.le_of_ble_eq_true rfl, Nat.le_of_ble_eq_true rfl⟩) ⟨PW.blind, va_recv hK hPc (ci := 4) (q0 := 0) rfl rfl, fun U hU hW => ⟨rfl, PW.go hU hW hPc hK hN⟩⟩ rfl rfl hl.1 rfl (lv_room (Nat.le_of_ble_eq_true rfl)) dX5_deed_78 ⟨Nat.zero_le _, Nat.zero_le _⟩) (fun r_12 hf => ?_)
        exact W.iret (v := r_12) hx hb hr (fun t ht hW => ⟨r_12, rfl, hf, ht⟩) (fun q h => by cases h) dX5_deed_81
      · replace hf := hf.2.2.1 rfl
        refine va_aldq hx hb hK hP 1 4 rfl rfl (show ¬ _ by decide) dX5_deed_32 ?_
        refine W.eq (g2 := F0 m 33 ls [.ref h4]) rfl ?_
        refine lv_ifnonnull (tgt := 38) hx hb dX5_deed_33 (by decide) ?_
        refine lv_aload_n hx hb dX5_deed_38 rfl (lv_at hl 1 rfl) ?_
        refine va_get (D := (dC, dI)) (ci := 5) (v := .ref h8) (C := RX5) (T := TX5) (N := 7) hx hb hts iX5_deed_X5 hown hK hP 0 rfl rfl 1 (by decide) (hts _ mX5_deed_f14) (fun _ h9 => h9) rfl dX5_deed_39 ?_
        refine lv_iload_n hx hb dX5_deed_42 rfl (lv_at hl 2 rfl) ?_
        refine lv_iconst (v := (0 : Int32)) hx hb dX5_deed_43 (by decide) ?_
        have hPc := hP.sub (ws' := [(h8, .inr (7, [.int (12 : Int32), .int (6 : Int32), .ref h9, .int s_passers_size])), (h9, .inl (cI, 72, .inl s_passers_cells))]) [8, 9] rfl
        refine ro_calli (va_runV (As := [.int a1, .int (0 : Int32)]) (rest := []) ⟨hx, hb, hml, hown, hts⟩ (metX7_at hf) (cwV 2 hts gX5_deed_X7_at rfl rfl rfl ⟨rfl, kX7_at⟩ ⟨Nat.le_of_ble_eq_true rfl, Nat.le_of_ble_eq_true rfl⟩) ⟨PW.blind, va_recv hK hPc (ci := 7) (q0 := 0) rfl rfl, fun U hU hW => ⟨rfl, PW.go hU hW hPc hK hN⟩⟩ rfl rfl hl.1 rfl (lv_room (Nat.le_of_ble_eq_true rfl)) dX5_deed_44 ⟨Nat.zero_le _, Nat.zero_le _⟩) (fun r_13 hf => ?_)
        refine lv_istore (lv' := [(5, .int r_13), (4, .int (2 : Int32)), (0, .ref h0), (1, .int a1), (2, .int a2), (3, .int a3)]) hx hb dX5_deed_47 hl (by decide) rfl (fun ls hl => ?_)
        refine lv_aload_n hx hb dX5_deed_49 rfl (lv_at hl 2 rfl) ?_
        refine va_get (D := (dC, dI)) (ci := 5) (v := .ref h1) (C := RX5) (T := TX5) (N := 7) hx hb hts iX5_deed_X5 hown hK hP 0 rfl rfl 0 (by decide) (hts _ mX5_deed_f36) (fun _ h9 => h9) rfl dX5_deed_50 ?_
        refine lv_iload hx hb dX5_deed_53 (lv_at hl 1 rfl) ?_
        refine va_aldq hx hb hK hP 1 4 rfl rfl (show ¬ _ by decide) dX5_deed_55 ?_
        refine W.eq (g2 := F0 m 56 ls [.ref h4]) rfl ?_
        refine lv_iload hx hb dX5_deed_56 (lv_at hl 0 rfl) ?_
        refine lv_aload_n hx hb dX5_deed_58 rfl (lv_at hl 2 rfl) ?_
        refine va_get (D := (dC, dI)) (ci := 5) (v := .ref h8) (C := RX5) (T := TX5) (N := 7) hx hb hts iX5_deed_X5 hown hK hP 0 rfl rfl 1 (by decide) (hts _ mX5_deed_f14) (fun _ h9 => h9) rfl dX5_deed_59 ?_
        refine lv_iload_n hx hb dX5_deed_62 rfl (lv_at hl 3 rfl) ?_
        refine lv_iconst (v := (2 : Int32)) hx hb dX5_deed_63 (by decide) ?_
        have hPc := hP.sub (ws' := [(h8, .inr (7, [.int (12 : Int32), .int (6 : Int32), .ref h9, .int s_passers_size])), (h9, .inl (cI, 72, .inl s_passers_cells))]) [8, 9] rfl
        refine ro_calli (va_runV (As := [.int a1, .int (2 : Int32)]) (rest := [.int r_13, .ref h4]) ⟨hx, hb, hml, hown, hts⟩ (metX7_at hf) (cwV 2 hts gX5_deed_X7_at rfl rfl rfl ⟨rfl, kX7_at⟩ ⟨Nat.le_of_ble_eq_true rfl, Nat.le_of_ble_eq_true rfl⟩) ⟨PW.blind, va_recv hK hPc (ci := 7) (q0 := 0) rfl rfl, fun U hU hW => ⟨rfl, PW.go hU hW hPc hK hN⟩⟩ rfl rfl hl.1 rfl (lv_room (Nat.le_of_ble_eq_true rfl)) dX5_deed_64 ⟨Nat.zero_le _, Nat.zero_le _⟩) (fun r_14 hf => ?_)
        refine lv_aload_n hx hb dX5_deed_67 rfl (lv_at hl 2 rfl) ?_
        refine va_get (D := (dC, dI)) (ci := 5) (v := .ref h8) (C := RX5) (T := TX5) (N := 7) hx hb hts iX5_deed_X5 hown hK hP 0 rfl rfl 1 (by decide) (hts _ mX5_deed_f14) (fun _ h9 => h9) rfl dX5_deed_68 ?_
        refine lv_iload_n hx hb dX5_deed_71 rfl (lv_at hl 3 rfl) ?_
        refine lv_iconst (v := (3 : Int32)) hx hb dX5_deed_72 (by decide) ?_
        have hPc := hP.sub (ws' := [(h8, .inr (7, [.int (12 : Int32), .int (6 : Int32), .ref h9, .int s_passers_size])), (h9, .inl (cI, 72, .inl s_passers_cells))]) [8, 9] rfl
        refine ro_calli (va_runV (As := [.int a1, .int (3 : Int32)]) (rest := [.int r_14, .int r_13, .ref h4]) ⟨hx, hb, hml, hown, hts⟩ (metX7_at hf) (cwV 2 hts gX5_deed_X7_at rfl rfl rfl ⟨rfl, kX7_at⟩ ⟨Nat.le_of_ble_eq_true rfl, Nat.le_of_ble_eq_true rfl⟩) ⟨PW.blind, va_recv hK hPc (ci := 7) (q0 := 0) rfl rfl, fun U hU hW => ⟨rfl, PW.go hU hW hPc hK hN⟩⟩ rfl rfl hl.1 rfl (lv_room (Nat.le_of_ble_eq_true rfl)) dX5_deed_73 ⟨Nat.zero_le _, Nat.zero_le _⟩) (fun r_15 hf => ?_)
        refine lv_iload_n hx hb dX5_deed_76 rfl (lv_at hl 4 rfl) ?_
        refine lv_iload_n hx hb dX5_deed_77 rfl (lv_at hl 5 rfl) ?_
        have hPc := hP.sub (ws' := [(h4, .inr (10, []))]) [4] rfl
        refine ro_calli (va_runU (As := [.int r_13, .int r_14, .int r_15, .int a2, .int a3]) (rest := []) ⟨hx, hb, hml, hown, hts⟩ (metX10_act hf) (va_cwO 5 hts gX5_deed_X10_act_u99X10 rfl rfl rfl mX5_deed_cTaker kX9_act ⟨Nat.le_of_ble_eq_true rfl, Nat.le_of_ble_eq_true rfl⟩) ⟨PW.blind, va_recv hK hPc (ci := 10) (q0 := 0) rfl rfl, fun U hU hW => ⟨rfl, PW.go hU hW hPc hK hN⟩⟩ rfl rfl hl.1 rfl (lv_room (Nat.le_of_ble_eq_true rfl)) dX5_deed_78 ⟨Nat.zero_le _, Nat.zero_le _⟩) (fun r_16 hf => ?_)
        exact W.iret (v := r_16) hx hb hr (fun t ht hW => ⟨r_16, rfl, hf, ht⟩) (fun q h => by cases h) dX5_deed_81
      · replace hf := hf.2.2.2.1 rfl
        refine va_aldq hx hb hK hP 1 4 rfl rfl (show ¬ _ by decide) dX5_deed_32 ?_
        refine W.eq (g2 := F0 m 33 ls [.ref h5]) rfl ?_
        refine lv_ifnonnull (tgt := 38) hx hb dX5_deed_33 (by decide) ?_
        refine lv_aload_n hx hb dX5_deed_38 rfl (lv_at hl 1 rfl) ?_
        refine va_get (D := (dC, dI)) (ci := 5) (v := .ref h8) (C := RX5) (T := TX5) (N := 7) hx hb hts iX5_deed_X5 hown hK hP 0 rfl rfl 1 (by decide) (hts _ mX5_deed_f14) (fun _ h9 => h9) rfl dX5_deed_39 ?_
        refine lv_iload_n hx hb dX5_deed_42 rfl (lv_at hl 2 rfl) ?_
        refine lv_iconst (v := (0 : Int32)) hx hb dX5_deed_43 (by decide) ?_
        have hPc := hP.sub (ws' := [(h8, .inr (7, [.int (12 : Int32), .int (6 : Int32), .ref h9, .int s_passers_size])), (h9, .inl (cI, 72, .inl s_passers_cells))]) [8, 9] rfl
        refine ro_calli (va_runV (As := [.int a1, .int (0 : Int32)]) (rest := []) ⟨hx, hb, hml, hown, hts⟩ (metX7_at hf) (cwV 2 hts gX5_deed_X7_at rfl rfl rfl ⟨rfl, kX7_at⟩ ⟨Nat.le_of_ble_eq_true rfl, Nat.le_of_ble_eq_true rfl⟩) ⟨PW.blind, va_recv hK hPc (ci := 7) (q0 := 0) rfl rfl, fun U hU hW => ⟨rfl, PW.go hU hW hPc hK hN⟩⟩ rfl rfl hl.1 rfl (lv_room (Nat.le_of_ble_eq_true rfl)) dX5_deed_44 ⟨Nat.zero_le _, Nat.zero_le _⟩) (fun r_17 hf => ?_)
        refine lv_istore (lv' := [(5, .int r_17), (4, .int (3 : Int32)), (0, .ref h0), (1, .int a1), (2, .int a2), (3, .int a3)]) hx hb dX5_deed_47 hl (by decide) rfl (fun ls hl => ?_)
        refine lv_aload_n hx hb dX5_deed_49 rfl (lv_at hl 2 rfl) ?_
        refine va_get (D := (dC, dI)) (ci := 5) (v := .ref h1) (C := RX5) (T := TX5) (N := 7) hx hb hts iX5_deed_X5 hown hK hP 0 rfl rfl 0 (by decide) (hts _ mX5_deed_f36) (fun _ h9 => h9) rfl dX5_deed_50 ?_
        refine lv_iload hx hb dX5_deed_53 (lv_at hl 1 rfl) ?_
        refine va_aldq hx hb hK hP 1 4 rfl rfl (show ¬ _ by decide) dX5_deed_55 ?_
        refine W.eq (g2 := F0 m 56 ls [.ref h5]) rfl ?_
        refine lv_iload hx hb dX5_deed_56 (lv_at hl 0 rfl) ?_
        refine lv_aload_n hx hb dX5_deed_58 rfl (lv_at hl 2 rfl) ?_
        refine va_get (D := (dC, dI)) (ci := 5) (v := .ref h8) (C := RX5) (T := TX5) (N := 7) hx hb hts iX5_deed_X5 hown hK hP 0 rfl rfl 1 (by decide) (hts _ mX5_deed_f14) (fun _ h9 => h9) rfl dX5_deed_59 ?_
        refine lv_iload_n hx hb dX5_deed_62 rfl (lv_at hl 3 rfl) ?_
        refine lv_iconst (v := (2 : Int32)) hx hb dX5_deed_63 (by decide) ?_
        have hPc := hP.sub (ws' := [(h8, .inr (7, [.int (12 : Int32), .int (6 : Int32), .ref h9, .int s_passers_size])), (h9, .inl (cI, 72, .inl s_passers_cells))]) [8, 9] rfl
        refine ro_calli (va_runV (As := [.int a1, .int (2 : Int32)]) (rest := [.int r_17, .ref h5]) ⟨hx, hb, hml, hown, hts⟩ (metX7_at hf) (cwV 2 hts gX5_deed_X7_at rfl rfl rfl ⟨rfl, kX7_at⟩ ⟨Nat.le_of_ble_eq_true rfl, Nat.le_of_ble_eq_true rfl⟩) ⟨PW.blind, va_recv hK hPc (ci := 7) (q0 := 0) rfl rfl, fun U hU hW => ⟨rfl, PW.go hU hW hPc hK hN⟩⟩ rfl rfl hl.1 rfl (lv_room (Nat.le_of_ble_eq_true rfl)) dX5_deed_64 ⟨Nat.zero_le _, Nat.zero_le _⟩) (fun r_18 hf => ?_)
        refine lv_aload_n hx hb dX5_deed_67 rfl (lv_at hl 2 rfl) ?_
        refine va_get (D := (dC, dI)) (ci := 5) (v := .ref h8) (C := RX5) (T := TX5) (N := 7) hx hb hts iX5_deed_X5 hown hK hP 0 rfl rfl 1 (by decide) (hts _ mX5_deed_f14) (fun _ h9 => h9) rfl dX5_deed_68 ?_
        refine lv_iload_n hx hb dX5_deed_71 rfl (lv_at hl 3 rfl) ?_
        refine lv_iconst (v := (3 : Int32)) hx hb dX5_deed_72 (by decide) ?_
        have hPc := hP.sub (ws' := [(h8, .inr (7, [.int (12 : Int32), .int (6 : Int32), .ref h9, .int s_passers_size])), (h9, .inl (cI, 72, .inl s_passers_cells))]) [8, 9] rfl
        refine ro_calli (va_runV (As := [.int a1, .int (3 : Int32)]) (rest := [.int r_18, .int r_17, .ref h5]) ⟨hx, hb, hml, hown, hts⟩ (metX7_at hf) (cwV 2 hts gX5_deed_X7_at rfl rfl rfl ⟨rfl, kX7_at⟩ ⟨Nat.le_of_ble_eq_true rfl, Nat.le_of_ble_eq_true rfl⟩) ⟨PW.blind, va_recv hK hPc (ci := 7) (q0 := 0) rfl rfl, fun U hU hW => ⟨rfl, PW.go hU hW hPc hK hN⟩⟩ rfl rfl hl.1 rfl (lv_room (Nat.le_of_ble_eq_true rfl)) dX5_deed_73 ⟨Nat.zero_le _, Nat.zero_le _⟩) (fun r_19 hf => ?_)
        refine lv_iload_n hx hb dX5_deed_76 rfl (lv_at hl 4 rfl) ?_
        refine lv_iload_n hx hb dX5_deed_77 rfl (lv_at hl 5 rfl) ?_
        have hPc := hP.sub (ws' := [(h5, .inr (2, []))]) [5] rfl
        refine ro_calli (va_runU (As := [.int r_17, .int r_18, .int r_19, .int a2, .int a3]) (rest := []) ⟨hx, hb, hml, hown, hts⟩ (metX2_act hf) (va_cwO 5 hts gX5_deed_X2_act_u99X2 rfl rfl rfl mX5_deed_cTaker kX9_act ⟨Nat.le_of_ble_eq_true rfl, Nat.le_of_ble_eq_true rfl⟩) ⟨PW.blind, va_recv hK hPc (ci := 2) (q0 := 0) rfl rfl, fun U hU hW => ⟨rfl, PW.go hU hW hPc hK hN⟩⟩ rfl rfl hl.1 rfl (lv_room (Nat.le_of_ble_eq_true rfl)) dX5_deed_78 ⟨Nat.zero_le _, Nat.zero_le _⟩) (fun r_20 hf => ?_)
        exact W.iret (v := r_20) hx hb hr (fun t ht hW => ⟨r_20, rfl, hf, ht⟩) (fun q h => by cases h) dX5_deed_81
      · replace hf := hf.2.2.2.2.1 rfl
        refine va_aldq hx hb hK hP 1 4 rfl rfl (show ¬ _ by decide) dX5_deed_32 ?_
        refine W.eq (g2 := F0 m 33 ls [.ref h6]) rfl ?_
        refine lv_ifnonnull (tgt := 38) hx hb dX5_deed_33 (by decide) ?_
        refine lv_aload_n hx hb dX5_deed_38 rfl (lv_at hl 1 rfl) ?_
        refine va_get (D := (dC, dI)) (ci := 5) (v := .ref h8) (C := RX5) (T := TX5) (N := 7) hx hb hts iX5_deed_X5 hown hK hP 0 rfl rfl 1 (by decide) (hts _ mX5_deed_f14) (fun _ h9 => h9) rfl dX5_deed_39 ?_
        refine lv_iload_n hx hb dX5_deed_42 rfl (lv_at hl 2 rfl) ?_
        refine lv_iconst (v := (0 : Int32)) hx hb dX5_deed_43 (by decide) ?_
        have hPc := hP.sub (ws' := [(h8, .inr (7, [.int (12 : Int32), .int (6 : Int32), .ref h9, .int s_passers_size])), (h9, .inl (cI, 72, .inl s_passers_cells))]) [8, 9] rfl
        refine ro_calli (va_runV (As := [.int a1, .int (0 : Int32)]) (rest := []) ⟨hx, hb, hml, hown, hts⟩ (metX7_at hf) (cwV 2 hts gX5_deed_X7_at rfl rfl rfl ⟨rfl, kX7_at⟩ ⟨Nat.le_of_ble_eq_true rfl, Nat.le_of_ble_eq_true rfl⟩) ⟨PW.blind, va_recv hK hPc (ci := 7) (q0 := 0) rfl rfl, fun U hU hW => ⟨rfl, PW.go hU hW hPc hK hN⟩⟩ rfl rfl hl.1 rfl (lv_room (Nat.le_of_ble_eq_true rfl)) dX5_deed_44 ⟨Nat.zero_le _, Nat.zero_le _⟩) (fun r_21 hf => ?_)
        refine lv_istore (lv' := [(5, .int r_21), (4, .int (4 : Int32)), (0, .ref h0), (1, .int a1), (2, .int a2), (3, .int a3)]) hx hb dX5_deed_47 hl (by decide) rfl (fun ls hl => ?_)
        refine lv_aload_n hx hb dX5_deed_49 rfl (lv_at hl 2 rfl) ?_
        refine va_get (D := (dC, dI)) (ci := 5) (v := .ref h1) (C := RX5) (T := TX5) (N := 7) hx hb hts iX5_deed_X5 hown hK hP 0 rfl rfl 0 (by decide) (hts _ mX5_deed_f36) (fun _ h9 => h9) rfl dX5_deed_50 ?_
        refine lv_iload hx hb dX5_deed_53 (lv_at hl 1 rfl) ?_
        refine va_aldq hx hb hK hP 1 4 rfl rfl (show ¬ _ by decide) dX5_deed_55 ?_
        refine W.eq (g2 := F0 m 56 ls [.ref h6]) rfl ?_
        refine lv_iload hx hb dX5_deed_56 (lv_at hl 0 rfl) ?_
        refine lv_aload_n hx hb dX5_deed_58 rfl (lv_at hl 2 rfl) ?_
        refine va_get (D := (dC, dI)) (ci := 5) (v := .ref h8) (C := RX5) (T := TX5) (N := 7) hx hb hts iX5_deed_X5 hown hK hP 0 rfl rfl 1 (by decide) (hts _ mX5_deed_f14) (fun _ h9 => h9) rfl dX5_deed_59 ?_
        refine lv_iload_n hx hb dX5_deed_62 rfl (lv_at hl 3 rfl) ?_
        refine lv_iconst (v := (2 : Int32)) hx hb dX5_deed_63 (by decide) ?_
        have hPc := hP.sub (ws' := [(h8, .inr (7, [.int (12 : Int32), .int (6 : Int32), .ref h9, .int s_passers_size])), (h9, .inl (cI, 72, .inl s_passers_cells))]) [8, 9] rfl
        refine ro_calli (va_runV (As := [.int a1, .int (2 : Int32)]) (rest := [.int r_21, .ref h6]) ⟨hx, hb, hml, hown, hts⟩ (metX7_at hf) (cwV 2 hts gX5_deed_X7_at rfl rfl rfl ⟨rfl, kX7_at⟩ ⟨Nat.le_of_ble_eq_true rfl, Nat.le_of_ble_eq_true rfl⟩) ⟨PW.blind, va_recv hK hPc (ci := 7) (q0 := 0) rfl rfl, fun U hU hW => ⟨rfl, PW.go hU hW hPc hK hN⟩⟩ rfl rfl hl.1 rfl (lv_room (Nat.le_of_ble_eq_true rfl)) dX5_deed_64 ⟨Nat.zero_le _, Nat.zero_le _⟩) (fun r_22 hf => ?_)
        refine lv_aload_n hx hb dX5_deed_67 rfl (lv_at hl 2 rfl) ?_
        refine va_get (D := (dC, dI)) (ci := 5) (v := .ref h8) (C := RX5) (T := TX5) (N := 7) hx hb hts iX5_deed_X5 hown hK hP 0 rfl rfl 1 (by decide) (hts _ mX5_deed_f14) (fun _ h9 => h9) rfl dX5_deed_68 ?_
        refine lv_iload_n hx hb dX5_deed_71 rfl (lv_at hl 3 rfl) ?_
        refine lv_iconst (v := (3 : Int32)) hx hb dX5_deed_72 (by decide) ?_
        have hPc := hP.sub (ws' := [(h8, .inr (7, [.int (12 : Int32), .int (6 : Int32), .ref h9, .int s_passers_size])), (h9, .inl (cI, 72, .inl s_passers_cells))]) [8, 9] rfl
        refine ro_calli (va_runV (As := [.int a1, .int (3 : Int32)]) (rest := [.int r_22, .int r_21, .ref h6]) ⟨hx, hb, hml, hown, hts⟩ (metX7_at hf) (cwV 2 hts gX5_deed_X7_at rfl rfl rfl ⟨rfl, kX7_at⟩ ⟨Nat.le_of_ble_eq_true rfl, Nat.le_of_ble_eq_true rfl⟩) ⟨PW.blind, va_recv hK hPc (ci := 7) (q0 := 0) rfl rfl, fun U hU hW => ⟨rfl, PW.go hU hW hPc hK hN⟩⟩ rfl rfl hl.1 rfl (lv_room (Nat.le_of_ble_eq_true rfl)) dX5_deed_73 ⟨Nat.zero_le _, Nat.zero_le _⟩) (fun r_23 hf => ?_)
        refine lv_iload_n hx hb dX5_deed_76 rfl (lv_at hl 4 rfl) ?_
        refine lv_iload_n hx hb dX5_deed_77 rfl (lv_at hl 5 rfl) ?_
        have hPc := hP.sub (ws' := [(h6, .inr (1, []))]) [6] rfl
        refine ro_calli (va_runU (As := [.int r_21, .int r_22, .int r_23, .int a2, .int a3]) (rest := []) ⟨hx, hb, hml, hown, hts⟩ (metX1_act hf) (va_cwO 5 hts gX5_deed_X1_act_u99X1 rfl rfl rfl mX5_deed_cTaker kX9_act ⟨Nat.le_of_ble_eq_true rfl, Nat.le_of_ble_eq_true rfl⟩) ⟨PW.blind, va_recv hK hPc (ci := 1) (q0 := 0) rfl rfl, fun U hU hW => ⟨rfl, PW.go hU hW hPc hK hN⟩⟩ rfl rfl hl.1 rfl (lv_room (Nat.le_of_ble_eq_true rfl)) dX5_deed_78 ⟨Nat.zero_le _, Nat.zero_le _⟩) (fun r_24 hf => ?_)
        exact W.iret (v := r_24) hx hb hr (fun t ht hW => ⟨r_24, rfl, hf, ht⟩) (fun q h => by cases h) dX5_deed_81
      · replace hf := hf.2.2.2.2.2 rfl
        refine va_aldq hx hb hK hP 1 4 rfl rfl (show ¬ _ by decide) dX5_deed_32 ?_
        refine W.eq (g2 := F0 m 33 ls [.ref h7]) rfl ?_
        refine lv_ifnonnull (tgt := 38) hx hb dX5_deed_33 (by decide) ?_
        refine lv_aload_n hx hb dX5_deed_38 rfl (lv_at hl 1 rfl) ?_
        refine va_get (D := (dC, dI)) (ci := 5) (v := .ref h8) (C := RX5) (T := TX5) (N := 7) hx hb hts iX5_deed_X5 hown hK hP 0 rfl rfl 1 (by decide) (hts _ mX5_deed_f14) (fun _ h9 => h9) rfl dX5_deed_39 ?_
        refine lv_iload_n hx hb dX5_deed_42 rfl (lv_at hl 2 rfl) ?_
        refine lv_iconst (v := (0 : Int32)) hx hb dX5_deed_43 (by decide) ?_
        have hPc := hP.sub (ws' := [(h8, .inr (7, [.int (12 : Int32), .int (6 : Int32), .ref h9, .int s_passers_size])), (h9, .inl (cI, 72, .inl s_passers_cells))]) [8, 9] rfl
        refine ro_calli (va_runV (As := [.int a1, .int (0 : Int32)]) (rest := []) ⟨hx, hb, hml, hown, hts⟩ (metX7_at hf) (cwV 2 hts gX5_deed_X7_at rfl rfl rfl ⟨rfl, kX7_at⟩ ⟨Nat.le_of_ble_eq_true rfl, Nat.le_of_ble_eq_true rfl⟩) ⟨PW.blind, va_recv hK hPc (ci := 7) (q0 := 0) rfl rfl, fun U hU hW => ⟨rfl, PW.go hU hW hPc hK hN⟩⟩ rfl rfl hl.1 rfl (lv_room (Nat.le_of_ble_eq_true rfl)) dX5_deed_44 ⟨Nat.zero_le _, Nat.zero_le _⟩) (fun r_25 hf => ?_)
        refine lv_istore (lv' := [(5, .int r_25), (4, .int (5 : Int32)), (0, .ref h0), (1, .int a1), (2, .int a2), (3, .int a3)]) hx hb dX5_deed_47 hl (by decide) rfl (fun ls hl => ?_)
        refine lv_aload_n hx hb dX5_deed_49 rfl (lv_at hl 2 rfl) ?_
        refine va_get (D := (dC, dI)) (ci := 5) (v := .ref h1) (C := RX5) (T := TX5) (N := 7) hx hb hts iX5_deed_X5 hown hK hP 0 rfl rfl 0 (by decide) (hts _ mX5_deed_f36) (fun _ h9 => h9) rfl dX5_deed_50 ?_
        refine lv_iload hx hb dX5_deed_53 (lv_at hl 1 rfl) ?_
        refine va_aldq hx hb hK hP 1 4 rfl rfl (show ¬ _ by decide) dX5_deed_55 ?_
        refine W.eq (g2 := F0 m 56 ls [.ref h7]) rfl ?_
        refine lv_iload hx hb dX5_deed_56 (lv_at hl 0 rfl) ?_
        refine lv_aload_n hx hb dX5_deed_58 rfl (lv_at hl 2 rfl) ?_
        refine va_get (D := (dC, dI)) (ci := 5) (v := .ref h8) (C := RX5) (T := TX5) (N := 7) hx hb hts iX5_deed_X5 hown hK hP 0 rfl rfl 1 (by decide) (hts _ mX5_deed_f14) (fun _ h9 => h9) rfl dX5_deed_59 ?_
        refine lv_iload_n hx hb dX5_deed_62 rfl (lv_at hl 3 rfl) ?_
        refine lv_iconst (v := (2 : Int32)) hx hb dX5_deed_63 (by decide) ?_
        have hPc := hP.sub (ws' := [(h8, .inr (7, [.int (12 : Int32), .int (6 : Int32), .ref h9, .int s_passers_size])), (h9, .inl (cI, 72, .inl s_passers_cells))]) [8, 9] rfl
        refine ro_calli (va_runV (As := [.int a1, .int (2 : Int32)]) (rest := [.int r_25, .ref h7]) ⟨hx, hb, hml, hown, hts⟩ (metX7_at hf) (cwV 2 hts gX5_deed_X7_at rfl rfl rfl ⟨rfl, kX7_at⟩ ⟨Nat.le_of_ble_eq_true rfl, Nat.le_of_ble_eq_true rfl⟩) ⟨PW.blind, va_recv hK hPc (ci := 7) (q0 := 0) rfl rfl, fun U hU hW => ⟨rfl, PW.go hU hW hPc hK hN⟩⟩ rfl rfl hl.1 rfl (lv_room (Nat.le_of_ble_eq_true rfl)) dX5_deed_64 ⟨Nat.zero_le _, Nat.zero_le _⟩) (fun r_26 hf => ?_)
        refine lv_aload_n hx hb dX5_deed_67 rfl (lv_at hl 2 rfl) ?_
        refine va_get (D := (dC, dI)) (ci := 5) (v := .ref h8) (C := RX5) (T := TX5) (N := 7) hx hb hts iX5_deed_X5 hown hK hP 0 rfl rfl 1 (by decide) (hts _ mX5_deed_f14) (fun _ h9 => h9) rfl dX5_deed_68 ?_
        refine lv_iload_n hx hb dX5_deed_71 rfl (lv_at hl 3 rfl) ?_
        refine lv_iconst (v := (3 : Int32)) hx hb dX5_deed_72 (by decide) ?_
        have hPc := hP.sub (ws' := [(h8, .inr (7, [.int (12 : Int32), .int (6 : Int32), .ref h9, .int s_passers_size])), (h9, .inl (cI, 72, .inl s_passers_cells))]) [8, 9] rfl
        refine ro_calli (va_runV (As := [.int a1, .int (3 : Int32)]) (rest := [.int r_26, .int r_25, .ref h7]) ⟨hx, hb, hml, hown, hts⟩ (metX7_at hf) (cwV 2 hts gX5_deed_X7_at rfl rfl rfl ⟨rfl, kX7_at⟩ ⟨Nat.le_of_ble_eq_true rfl, Nat.le_of_ble_eq_true rfl⟩) ⟨PW.blind, va_recv hK hPc (ci := 7) (q0 := 0) rfl rfl, fun U hU hW => ⟨rfl, PW.go hU hW hPc hK hN⟩⟩ rfl rfl hl.1 rfl (lv_room (Nat.le_of_ble_eq_true rfl)) dX5_deed_73 ⟨Nat.zero_le _, Nat.zero_le _⟩) (fun r_27 hf => ?_)
        refine lv_iload_n hx hb dX5_deed_76 rfl (lv_at hl 4 rfl) ?_
        refine lv_iload_n hx hb dX5_deed_77 rfl (lv_at hl 5 rfl) ?_
        have hPc := hP.sub (ws' := [(h7, .inr (0, []))]) [7] rfl
        refine ro_calli (va_runU (As := [.int r_25, .int r_26, .int r_27, .int a2, .int a3]) (rest := []) ⟨hx, hb, hml, hown, hts⟩ (metX0_act hf) (va_cwO 5 hts gX5_deed_X0_act_u99X0 rfl rfl rfl mX5_deed_cTaker kX9_act ⟨Nat.le_of_ble_eq_true rfl, Nat.le_of_ble_eq_true rfl⟩) ⟨PW.blind, va_recv hK hPc (ci := 0) (q0 := 0) rfl rfl, fun U hU hW => ⟨rfl, PW.go hU hW hPc hK hN⟩⟩ rfl rfl hl.1 rfl (lv_room (Nat.le_of_ble_eq_true rfl)) dX5_deed_78 ⟨Nat.zero_le _, Nat.zero_le _⟩) (fun r_28 hf => ?_)
        exact W.iret (v := r_28) hx hb hr (fun t ht hW => ⟨r_28, rfl, hf, ht⟩) (fun q h => by cases h) dX5_deed_81
set_option maxHeartbeats 4000000 in
set_option maxRecDepth 100000 in
theorem wX5_walk_15 {p : Program} {e : Env} {s : State} {m : MethodId} {args : Array Value} {below : List Frame} {meth : Method} {c : Code} (C : CX p s m args meth c cX5_walk 7 wsX5_walk RX5 (some .int)) (hK : va_K (dC, dI) vwCl (TYS cI cL cB cZ cT cR) s) (hN : NW s) {h0 r_beasts r_checks r_looks h1 h2 h3 h4 h5 h6 h7 h8 h9 : Nat} {s_high s_low s_passers_size : Int32} {s_passers_cells : Nat → Int32} {k : Int32 → Prop} {kx : Int32 → Int32 → Prop} (hP : va_P (dC, dI) vwCl [(h0, .inr (5, [.ref h1, .ref h8, .ref r_beasts, .ref r_checks, .ref r_looks, .int s_high, .int s_low])), (h1, .inl (cT, 6, .inr (.inr (.inr (.inr (kd h2 h3 h4 h5 h6 h7)))))), (h2, .inr (9, [])), (h3, .inr (4, [])), (h4, .inr (10, [])), (h5, .inr (2, [])), (h6, .inr (1, [])), (h7, .inr (0, [])), (h8, .inr (7, [.int (12 : Int32), .int (6 : Int32), .ref h9, .int s_passers_size])), (h9, .inl (cI, 72, .inl s_passers_cells))] s.heap) (hkx : ∀ (x4 : Int32) (x5 : Int32) (ls : Array Slot), lv_has ls 7 [(0, .ref h0), (4, .int x4), (5, .int x5)] → kx x4 x5 → W p l e ({ frames := 4, cells := 0, slots := 0, locals := 97 } : Room) s m args below meth c s.heap [] 0 0 (MQ below (roQi k) args s 0 0 (fun _ => False)) (F0 m 46 ls [])) : ∀ (n15 : Nat), ∀ (x2 : Int32) (x4 : Int32) (x5 : Int32) (x6 : Int32) (ls : Array Slot), lv_has ls 7 [(0, .ref h0), (2, .int x2), (4, .int x4), (5, .int x5), (6, .int x6)] → pX5_walk_15 s_passers_cells kx n15 x2 x4 x5 x6 → W p l e ({ frames := 4, cells := 0, slots := 0, locals := 97 } : Room) s m args below meth c s.heap [] 0 0 (MQ below (roQi k) args s 0 0 (fun _ => False)) (F0 m 15 ls []) := by
  obtain ⟨hx, hb, hml, hown, hts, hr, hlocks⟩ := id C
  intro n15
  induction n15 with
  | zero =>
    intro x2 x4 x5 x6 ls hl hf
    rw [pX5_walk_15] at hf
    exact hf.elim
  | succ n15 ih =>
    intro x2 x4 x5 x6 ls hl hf
    rw [pX5_walk_15] at hf
    refine lv_iload hx hb dX5_walk_15 (lv_at hl 4 rfl) ?_
    refine lv_iload_n hx hb dX5_walk_17 rfl (lv_at hl 1 rfl) ?_
    refine lv_icmp_ge (tgt := 46) hx hb dX5_walk_18 (by decide) (fun c_3 => ?_) (fun c_3 => ?_)
    · replace hf := hf.1 c_3
      exact hkx x4 x5 ls (lv_sub hl [0, 2, 3] rfl) hf
    · replace hf := hf.2 c_3
      refine lv_aload_n hx hb dX5_walk_21 rfl (lv_at hl 0 rfl) ?_
      refine lv_iload hx hb dX5_walk_22 (lv_at hl 4 rfl) ?_
      refine lv_iload hx hb dX5_walk_24 (lv_at hl 2 rfl) ?_
      refine lv_iload hx hb dX5_walk_26 (lv_at hl 3 rfl) ?_
      have hPc := hP.sub (ws' := [(h0, .inr (5, [.ref h1, .ref h8, .ref r_beasts, .ref r_checks, .ref r_looks, .int s_high, .int s_low])), (h1, .inl (cT, 6, .inr (.inr (.inr (.inr (kd h2 h3 h4 h5 h6 h7)))))), (h2, .inr (9, [])), (h3, .inr (4, [])), (h4, .inr (10, [])), (h5, .inr (2, [])), (h6, .inr (1, [])), (h7, .inr (0, [])), (h8, .inr (7, [.int (12 : Int32), .int (6 : Int32), .ref h9, .int s_passers_size])), (h9, .inl (cI, 72, .inl s_passers_cells))]) [0, 1, 2, 3, 4, 5, 6, 7, 8, 9] rfl
      refine ro_calli (va_runV (As := [.int x6, .int x4, .int x5]) (rest := []) ⟨hx, hb, hml, hown, hts⟩ (metX5_deed hf) (cwV 3 hts gX5_walk_X5_deed rfl rfl rfl ⟨rfl, kX5_deed⟩ ⟨Nat.le_of_ble_eq_true rfl, Nat.le_of_ble_eq_true rfl⟩) ⟨PW.blind, va_recv hK hPc (ci := 5) (q0 := 0) rfl rfl, fun U hU hW => ⟨rfl, PW.go hU hW hPc hK hN⟩⟩ rfl rfl hl.1 rfl (lv_room (Nat.le_of_ble_eq_true rfl)) dX5_walk_28 ⟨Nat.zero_le _, Nat.zero_le _⟩) (fun r_4 hf => ?_)
      refine lv_istore (lv' := [(5, .int r_4), (0, .ref h0), (2, .int x2), (4, .int x4), (6, .int x6)]) hx hb dX5_walk_31 hl (by decide) rfl (fun ls hl => ?_)
      refine lv_iload hx hb dX5_walk_33 (lv_at hl 3 rfl) ?_
      refine lv_iload hx hb dX5_walk_35 (lv_at hl 0 rfl) ?_
      refine lv_iadd hx hb dX5_walk_37 ?_
      refine lv_istore (lv' := [(4, .int (x4 + r_4)), (5, .int r_4), (0, .ref h0), (2, .int x2), (6, .int x6)]) hx hb dX5_walk_38 hl (by decide) rfl (fun ls hl => ?_)
      refine lv_iinc (v := (x6 + 1)) (lv' := [(6, .int (x6 + 1)), (4, .int (x4 + r_4)), (5, .int r_4), (0, .ref h0), (2, .int x2)]) hx hb dX5_walk_40 hl (k := 4) rfl (by rfl) (by decide) rfl (fun ls hl => ?_)
      refine lv_goto (tgt := 15) hx hb dX5_walk_43 (by decide) ?_
      exact ih x2 (x4 + r_4) r_4 (x6 + 1) ls (lv_sub hl [3, 4, 1, 2, 0] rfl) hf
set_option maxHeartbeats 4000000 in
set_option maxRecDepth 100000 in
theorem metX5_walk {h0 r_beasts r_checks r_looks h1 h2 h3 h4 h5 h6 h7 h8 h9 : Nat} {s_high s_low s_passers_size : Int32} {s_passers_cells : Nat → Int32} {a1 : Int32} {a2 : Int32} {a3 : Int32} {k : Int32 → Prop} (hf : pX5_walk s_passers_cells a1 a2 a3 k) : Met l yX5_walk wsX5_walk ({ frames := 4, cells := 0, slots := 0, locals := 97 } : Room) (va_Pc [.ref h0, .int a1, .int a2, .int a3] (PW dC dI (TYS cI cL cB cZ cT cR) [(h0, .inr (5, [.ref h1, .ref h8, .ref r_beasts, .ref r_checks, .ref r_looks, .int s_high, .int s_low])), (h1, .inl (cT, 6, .inr (.inr (.inr (.inr (kd h2 h3 h4 h5 h6 h7)))))), (h2, .inr (9, [])), (h3, .inr (4, [])), (h4, .inr (10, [])), (h5, .inr (2, [])), (h6, .inr (1, [])), (h7, .inr (0, [])), (h8, .inr (7, [.int (12 : Int32), .int (6 : Int32), .ref h9, .int s_passers_size])), (h9, .inl (cI, 72, .inl s_passers_cells))])) (roQi k) 0 0 (fun _ => False) := by
  refine Met.ofW (cc := cX5_walk) (maxL := 7) (ret := (some .int)) (by decide) rfl ?_
  intro p e s m args below meth c s₁ B hml hv
  obtain ⟨rfl, hP, hK, hN⟩ := hv
  have C : CX p s m _ meth c cX5_walk 7 wsX5_walk RX5 (some .int) := ⟨B.exec, B.bytes, hml, findClass_of_methodNamed B.named, atoms_spec (ws := wsX5_walk) B.pre, B.returns, B.notSynchronized⟩
  obtain ⟨hx, hb, -, hown, hts, hr, hlocks⟩ := id C
  have hl := lv_entry ([.ref h0, .int a1, .int a2, .int a3]) (n := 7) (Nat.le_of_ble_eq_true rfl)
  rw [lg_entry_eq]
  generalize (lg_sl ([.ref h0, .int a1, .int a2, .int a3]) ++ List.replicate (7 - (lg_sl ([.ref h0, .int a1, .int a2, .int a3])).length) Slot.unset).toArray = ls at hl ⊢
  have hl : lv_has ls 7 [(0, .ref h0), (1, .int a1), (2, .int a2), (3, .int a3)] := hl
  unfold pX5_walk at hf
  refine lv_iload_n hx hb dX5_walk_0 rfl (lv_at hl 3 rfl) ?_
  have hPc := hP.sub (ws' := []) [] rfl
  refine ro_calli (va_runSN (As := [.int a3]) (rest := []) ⟨hx, hb, hml, hown, hts⟩ (metX11_highOf hf) ⟨va_cnB 1 hts gX5_walk_X11_highOf_n90 rfl rfl rfl (hN _ nwm_4) (hts _ mX5_walk_iX11) kX11_highOf ⟨Nat.le_of_ble_eq_true rfl, Nat.le_of_ble_eq_true rfl⟩, hts _ mX5_walk_sX11_highOf, trivial⟩ ⟨PW.blind, fun U hU hW => ⟨rfl, PW.go hU hW hPc hK hN⟩⟩ rfl rfl hl.1 rfl (lv_room (Nat.le_of_ble_eq_true rfl)) dX5_walk_1 ⟨Nat.zero_le _, Nat.zero_le _⟩) (fun r_1 hf => ?_)
  refine lv_istore (lv' := [(4, .int r_1), (0, .ref h0), (1, .int a1), (2, .int a2), (3, .int a3)]) hx hb dX5_walk_4 hl (by decide) rfl (fun ls hl => ?_)
  refine lv_iload_n hx hb dX5_walk_6 rfl (lv_at hl 4 rfl) ?_
  have hPc := hP.sub (ws' := []) [] rfl
  refine ro_calli (va_runSN (As := [.int a3]) (rest := []) ⟨hx, hb, hml, hown, hts⟩ (metX11_didOf hf) ⟨va_cnB 1 hts gX5_walk_X11_didOf_n93 rfl rfl rfl (hN _ nwm_5) (hts _ mX5_walk_iX11) kX11_didOf ⟨Nat.le_of_ble_eq_true rfl, Nat.le_of_ble_eq_true rfl⟩, hts _ mX5_walk_sX11_didOf, trivial⟩ ⟨PW.blind, fun U hU hW => ⟨rfl, PW.go hU hW hPc hK hN⟩⟩ rfl rfl hl.1 rfl (lv_room (Nat.le_of_ble_eq_true rfl)) dX5_walk_7 ⟨Nat.zero_le _, Nat.zero_le _⟩) (fun r_2 hf => ?_)
  refine lv_istore (lv' := [(5, .int r_2), (4, .int r_1), (0, .ref h0), (1, .int a1), (2, .int a2), (3, .int a3)]) hx hb dX5_walk_10 hl (by decide) rfl (fun ls hl => ?_)
  refine lv_iload_n hx hb dX5_walk_12 rfl (lv_at hl 3 rfl) ?_
  refine lv_istore (lv' := [(6, .int a1), (5, .int r_2), (4, .int r_1), (0, .ref h0), (1, .int a1), (2, .int a2), (3, .int a3)]) hx hb dX5_walk_13 hl (by decide) rfl (fun ls hl => ?_)
  obtain ⟨n15, hf⟩ := hf
  refine wX5_walk_15 C hK hN hP (fun x4_5 x5_5 ls hl hf => ?_) n15 a2 r_1 r_2 a1 ls (lv_sub hl [3, 5, 2, 1, 0] rfl) hf
  refine lv_iload hx hb dX5_walk_46 (lv_at hl 1 rfl) ?_
  refine lv_iload hx hb dX5_walk_48 (lv_at hl 2 rfl) ?_
  have hPc := hP.sub (ws' := []) [] rfl
  refine ro_calli (va_runSN (As := [.int x4_5, .int x5_5]) (rest := []) ⟨hx, hb, hml, hown, hts⟩ (metX11_stand hf) ⟨va_cnB 2 hts gX5_walk_X11_stand_n70 rfl rfl rfl (hN _ nwm_3) (hts _ mX5_walk_iX11) kX11_stand ⟨Nat.le_of_ble_eq_true rfl, Nat.le_of_ble_eq_true rfl⟩, hts _ mX5_walk_sX11_stand, trivial⟩ ⟨PW.blind, fun U hU hW => ⟨rfl, PW.go hU hW hPc hK hN⟩⟩ rfl rfl hl.1 rfl (lv_room (Nat.le_of_ble_eq_true rfl)) dX5_walk_50 ⟨Nat.zero_le _, Nat.zero_le _⟩) (fun r_6 hf => ?_)
  exact W.iret (v := r_6) hx hb hr (fun t ht hW => ⟨r_6, rfl, hf, ht⟩) (fun q h => by cases h) dX5_walk_53
set_option maxHeartbeats 4000000 in
set_option maxRecDepth 100000 in
theorem metX5_highIn {h0 r_beasts r_checks r_looks h1 h2 h3 h4 h5 h6 h7 h8 h9 : Nat} {s_high s_low s_passers_size : Int32} {s_passers_cells : Nat → Int32} {a1 : Int32} {k : Int32 → Prop} (hf : pX5_highIn s_high s_passers_size s_passers_cells a1 k) : Met l yX5_highIn wsX5_highIn ({ frames := 5, cells := 0, slots := 0, locals := 123 } : Room) (va_Pc [.ref h0, .int a1] (PW dC dI (TYS cI cL cB cZ cT cR) [(h0, .inr (5, [.ref h1, .ref h8, .ref r_beasts, .ref r_checks, .ref r_looks, .int s_high, .int s_low])), (h1, .inl (cT, 6, .inr (.inr (.inr (.inr (kd h2 h3 h4 h5 h6 h7)))))), (h2, .inr (9, [])), (h3, .inr (4, [])), (h4, .inr (10, [])), (h5, .inr (2, [])), (h6, .inr (1, [])), (h7, .inr (0, [])), (h8, .inr (7, [.int (12 : Int32), .int (6 : Int32), .ref h9, .int s_passers_size])), (h9, .inl (cI, 72, .inl s_passers_cells))])) (roQi k) 0 0 (fun _ => False) := by
  refine Met.ofW (cc := cX5_highIn) (maxL := 2) (ret := (some .int)) (by decide) rfl ?_
  intro p e s m args below meth c s₁ B hml hv
  obtain ⟨rfl, hP, hK, hN⟩ := hv
  have C : CX p s m _ meth c cX5_highIn 2 wsX5_highIn RX5 (some .int) := ⟨B.exec, B.bytes, hml, findClass_of_methodNamed B.named, atoms_spec (ws := wsX5_highIn) B.pre, B.returns, B.notSynchronized⟩
  obtain ⟨hx, hb, -, hown, hts, hr, hlocks⟩ := id C
  have hl := lv_entry ([.ref h0, .int a1]) (n := 2) (Nat.le_of_ble_eq_true rfl)
  rw [lg_entry_eq]
  generalize (lg_sl ([.ref h0, .int a1]) ++ List.replicate (2 - (lg_sl ([.ref h0, .int a1])).length) Slot.unset).toArray = ls at hl ⊢
  have hl : lv_has ls 2 [(0, .ref h0), (1, .int a1)] := hl
  unfold pX5_highIn at hf
  refine lv_aload_n hx hb dX5_highIn_0 rfl (lv_at hl 0 rfl) ?_
  refine lv_iconst (v := (0 : Int32)) hx hb dX5_highIn_1 (by decide) ?_
  refine lv_aload_n hx hb dX5_highIn_2 rfl (lv_at hl 0 rfl) ?_
  refine lv_iload_n hx hb dX5_highIn_3 rfl (lv_at hl 1 rfl) ?_
  have hPc := hP.sub (ws' := [(h0, .inr (5, [.ref h1, .ref h8, .ref r_beasts, .ref r_checks, .ref r_looks, .int s_high, .int s_low])), (h8, .inr (7, [.int (12 : Int32), .int (6 : Int32), .ref h9, .int s_passers_size])), (h9, .inl (cI, 72, .inl s_passers_cells))]) [0, 8, 9] rfl
  refine ro_calli (va_runV (As := [.int a1]) (rest := [.int (0 : Int32), .ref h0]) ⟨hx, hb, hml, hown, hts⟩ (metX5_passedUntil hf) (cwV 1 hts gX5_highIn_X5_passedUntil rfl rfl rfl ⟨rfl, kX5_passedUntil⟩ ⟨Nat.le_of_ble_eq_true rfl, Nat.le_of_ble_eq_true rfl⟩) ⟨PW.blind, va_recv hK hPc (ci := 5) (q0 := 0) rfl rfl, fun U hU hW => ⟨rfl, PW.go hU hW hPc hK hN⟩⟩ rfl rfl hl.1 rfl (lv_room (Nat.le_of_ble_eq_true rfl)) dX5_highIn_4 ⟨Nat.zero_le _, Nat.zero_le _⟩) (fun r_1 hf => ?_)
  refine lv_aload_n hx hb dX5_highIn_7 rfl (lv_at hl 0 rfl) ?_
  have hPc := hP.sub (ws' := [(h0, .inr (5, [.ref h1, .ref h8, .ref r_beasts, .ref r_checks, .ref r_looks, .int s_high, .int s_low]))]) [0] rfl
  refine ro_calli (va_runV (As := []) (rest := [.int r_1, .int (0 : Int32), .ref h0]) ⟨hx, hb, hml, hown, hts⟩ (metX5_firstStand hf) (cwV 0 hts gX5_highIn_X5_firstStand rfl rfl rfl ⟨rfl, kX5_firstStand⟩ ⟨Nat.le_of_ble_eq_true rfl, Nat.le_of_ble_eq_true rfl⟩) ⟨PW.blind, va_recv hK hPc (ci := 5) (q0 := 0) rfl rfl, fun U hU hW => ⟨rfl, PW.go hU hW hPc hK hN⟩⟩ rfl rfl hl.1 rfl (lv_room (Nat.le_of_ble_eq_true rfl)) dX5_highIn_8 ⟨Nat.zero_le _, Nat.zero_le _⟩) (fun r_2 hf => ?_)
  have hPc := hP.sub (ws' := [(h0, .inr (5, [.ref h1, .ref h8, .ref r_beasts, .ref r_checks, .ref r_looks, .int s_high, .int s_low])), (h1, .inl (cT, 6, .inr (.inr (.inr (.inr (kd h2 h3 h4 h5 h6 h7)))))), (h2, .inr (9, [])), (h3, .inr (4, [])), (h4, .inr (10, [])), (h5, .inr (2, [])), (h6, .inr (1, [])), (h7, .inr (0, [])), (h8, .inr (7, [.int (12 : Int32), .int (6 : Int32), .ref h9, .int s_passers_size])), (h9, .inl (cI, 72, .inl s_passers_cells))]) [0, 1, 2, 3, 4, 5, 6, 7, 8, 9] rfl
  refine ro_calli (va_runV (As := [.int (0 : Int32), .int r_1, .int r_2]) (rest := []) ⟨hx, hb, hml, hown, hts⟩ (metX5_walk hf) (cwV 3 hts gX5_highIn_X5_walk rfl rfl rfl ⟨rfl, kX5_walk⟩ ⟨Nat.le_of_ble_eq_true rfl, Nat.le_of_ble_eq_true rfl⟩) ⟨PW.blind, va_recv hK hPc (ci := 5) (q0 := 0) rfl rfl, fun U hU hW => ⟨rfl, PW.go hU hW hPc hK hN⟩⟩ rfl rfl hl.1 rfl (lv_room (Nat.le_of_ble_eq_true rfl)) dX5_highIn_11 ⟨Nat.zero_le _, Nat.zero_le _⟩) (fun r_3 hf => ?_)
  have hPc := hP.sub (ws' := []) [] rfl
  refine ro_calli (va_runSN (As := [.int r_3]) (rest := []) ⟨hx, hb, hml, hown, hts⟩ (metX11_highOf hf) ⟨va_cnB 1 hts gX5_highIn_X11_highOf_n90 rfl rfl rfl (hN _ nwm_4) (hts _ mX5_highIn_iX11) kX11_highOf ⟨Nat.le_of_ble_eq_true rfl, Nat.le_of_ble_eq_true rfl⟩, hts _ mX5_highIn_sX11_highOf, trivial⟩ ⟨PW.blind, fun U hU hW => ⟨rfl, PW.go hU hW hPc hK hN⟩⟩ rfl rfl hl.1 rfl (lv_room (Nat.le_of_ble_eq_true rfl)) dX5_highIn_14 ⟨Nat.zero_le _, Nat.zero_le _⟩) (fun r_4 hf => ?_)
  exact W.iret (v := r_4) hx hb hr (fun t ht hW => ⟨r_4, rfl, hf, ht⟩) (fun q h => by cases h) dX5_highIn_17
set_option maxHeartbeats 4000000 in
set_option maxRecDepth 100000 in
theorem metX3_passedAhead {h0 r_kinds r_beasts r_looks h1 h2 h3 h4 : Nat} {s_high s_low s_passers_size s_checks_size : Int32} {s_passers_cells s_checks_cells : Nat → Int32} {a1 : Int32} {k : Int32 → Prop} (hf : pX3_passedAhead s_passers_size s_passers_cells s_checks_cells a1 k) : Met l yX3_passedAhead wsX3_passedAhead ({ frames := 2, cells := 0, slots := 0, locals := 46 } : Room) (va_Pc [.ref h0, .int a1] (PW dC dI (TYS cI cL cB cZ cT cR) [(h0, .inr (5, [.ref r_kinds, .ref h1, .ref r_beasts, .ref h3, .ref r_looks, .int s_high, .int s_low])), (h1, .inr (7, [.int (12 : Int32), .int (6 : Int32), .ref h2, .int s_passers_size])), (h2, .inl (cI, 72, .inl s_passers_cells)), (h3, .inr (7, [.int (5 : Int32), .int (3 : Int32), .ref h4, .int s_checks_size])), (h4, .inl (cI, 15, .inl s_checks_cells))])) (roQi k) 0 0 (fun _ => False) := by
  refine Met.ofW (cc := cX3_passedAhead) (maxL := 2) (ret := (some .int)) (by decide) rfl ?_
  intro p e s m args below meth c s₁ B hml hv
  obtain ⟨rfl, hP, hK, hN⟩ := hv
  have C : CX p s m _ meth c cX3_passedAhead 2 wsX3_passedAhead RX3 (some .int) := ⟨B.exec, B.bytes, hml, findClass_of_methodNamed B.named, atoms_spec (ws := wsX3_passedAhead) B.pre, B.returns, B.notSynchronized⟩
  obtain ⟨hx, hb, -, hown, hts, hr, hlocks⟩ := id C
  have hl := lv_entry ([.ref h0, .int a1]) (n := 2) (Nat.le_of_ble_eq_true rfl)
  rw [lg_entry_eq]
  generalize (lg_sl ([.ref h0, .int a1]) ++ List.replicate (2 - (lg_sl ([.ref h0, .int a1])).length) Slot.unset).toArray = ls at hl ⊢
  have hl : lv_has ls 2 [(0, .ref h0), (1, .int a1)] := hl
  unfold pX3_passedAhead at hf
  refine lv_iload_n hx hb dX3_passedAhead_0 rfl (lv_at hl 1 rfl) ?_
  refine lv_if_gt (tgt := 8) hx hb dX3_passedAhead_1 (by decide) (fun c_1 => ?_) (fun c_1 => ?_)
  · replace hf := hf.1 c_1
    refine lv_aload_n hx hb dX3_passedAhead_8 rfl (lv_at hl 0 rfl) ?_
    refine lv_aload_n hx hb dX3_passedAhead_9 rfl (lv_at hl 0 rfl) ?_
    refine va_getN (D := (dC, dI)) (ci := 5) (v := .ref h3) (C := RX5) (T := TX5) (N := 7) hx hb hts iX3_passedAhead_X5 hown hK hP 0 rfl rfl 3 (by decide) (va_Nw.use rfl (hN _ nwf_3)) (fun _ h9 => h9) rfl dX3_passedAhead_10 ?_
    refine lv_iload_n hx hb dX3_passedAhead_13 rfl (lv_at hl 1 rfl) ?_
    refine lv_iconst (v := (1 : Int32)) hx hb dX3_passedAhead_14 (by decide) ?_
    refine lv_isub hx hb dX3_passedAhead_15 ?_
    refine lv_iconst (v := (0 : Int32)) hx hb dX3_passedAhead_16 (by decide) ?_
    have hPc := hP.sub (ws' := [(h3, .inr (7, [.int (5 : Int32), .int (3 : Int32), .ref h4, .int s_checks_size])), (h4, .inl (cI, 15, .inl s_checks_cells))]) [3, 4] rfl
    refine ro_calli (va_runV (As := [.int (a1 - (1 : Int32)), .int (0 : Int32)]) (rest := [.ref h0]) ⟨hx, hb, hml, hown, hts⟩ (metX7_at hf) (cwV 2 hts gX3_passedAhead_X7_at rfl rfl rfl ⟨rfl, kX7_at⟩ ⟨Nat.le_of_ble_eq_true rfl, Nat.le_of_ble_eq_true rfl⟩) ⟨PW.blind, va_recv hK hPc (ci := 7) (q0 := 0) rfl rfl, fun U hU hW => ⟨rfl, PW.go hU hW hPc hK hN⟩⟩ rfl rfl hl.1 rfl (lv_room (Nat.le_of_ble_eq_true rfl)) dX3_passedAhead_17 ⟨Nat.zero_le _, Nat.zero_le _⟩) (fun r_2 hf => ?_)
    have hPc := hP.sub (ws' := [(h0, .inr (5, [.ref r_kinds, .ref h1, .ref r_beasts, .ref h3, .ref r_looks, .int s_high, .int s_low])), (h1, .inr (7, [.int (12 : Int32), .int (6 : Int32), .ref h2, .int s_passers_size])), (h2, .inl (cI, 72, .inl s_passers_cells))]) [0, 1, 2] rfl
    refine ro_calli (va_runV (As := [.int r_2]) (rest := []) ⟨hx, hb, hml, hown, hts⟩ (metX5_passedUntil hf) (cwV 1 hts gX3_passedAhead_X5_passedUntil rfl rfl rfl ⟨rfl, kX5_passedUntil⟩ ⟨Nat.le_of_ble_eq_true rfl, Nat.le_of_ble_eq_true rfl⟩) ⟨PW.blind, va_recv hK hPc (ci := 5) (q0 := 0) rfl rfl, fun U hU hW => ⟨rfl, PW.go hU hW hPc hK hN⟩⟩ rfl rfl hl.1 rfl (lv_room (Nat.le_of_ble_eq_true rfl)) dX3_passedAhead_20 ⟨Nat.zero_le _, Nat.zero_le _⟩) (fun r_3 hf => ?_)
    exact W.iret (v := r_3) hx hb hr (fun t ht hW => ⟨r_3, rfl, hf, ht⟩) (fun q h => by cases h) dX3_passedAhead_23
  · replace hf := hf.2 c_1
    refine lv_iconst (v := (0 : Int32)) hx hb dX3_passedAhead_4 (by decide) ?_
    refine lv_goto (tgt := 23) hx hb dX3_passedAhead_5 (by decide) ?_
    exact W.iret (v := (0 : Int32)) hx hb hr (fun t ht hW => ⟨(0 : Int32), rfl, hf, ht⟩) (fun q h => by cases h) dX3_passedAhead_23
set_option maxHeartbeats 4000000 in
set_option maxRecDepth 100000 in
theorem metX3_fewestFrom {h0 r_gains h1 : Nat} {s_men s_goal s_goalMen : Int32} {s_fewest : Nat → Int32} {a1 : Int32} {a2 : Int32} {k : Int32 → Prop} (hf : pX3_fewestFrom s_fewest a1 a2 k) : Met l yX3_fewestFrom wsX3_fewestFrom ({ frames := 0, cells := 0, slots := 0, locals := 0 } : Room) (va_Pc [.ref h0, .int a1, .int a2] (PW dC dI (TYS cI cL cB cZ cT cR) [(h0, .inr (3, [.ref h1, .ref r_gains, .int s_men, .int s_goal, .int s_goalMen])), (h1, .inl (cI, 620, .inl s_fewest))])) (roQi k) 0 0 (fun _ => False) := by
  refine Met.ofW (cc := cX3_fewestFrom) (maxL := 4) (ret := (some .int)) (by decide) rfl ?_
  intro p e s m args below meth c s₁ B hml hv
  obtain ⟨rfl, hP, hK, hN⟩ := hv
  have C : CX p s m _ meth c cX3_fewestFrom 4 wsX3_fewestFrom RX3 (some .int) := ⟨B.exec, B.bytes, hml, findClass_of_methodNamed B.named, atoms_spec (ws := wsX3_fewestFrom) B.pre, B.returns, B.notSynchronized⟩
  obtain ⟨hx, hb, -, hown, hts, hr, hlocks⟩ := id C
  have hl := lv_entry ([.ref h0, .int a1, .int a2]) (n := 4) (Nat.le_of_ble_eq_true rfl)
  rw [lg_entry_eq]
  generalize (lg_sl ([.ref h0, .int a1, .int a2]) ++ List.replicate (4 - (lg_sl ([.ref h0, .int a1, .int a2])).length) Slot.unset).toArray = ls at hl ⊢
  have hl : lv_has ls 4 [(0, .ref h0), (1, .int a1), (2, .int a2)] := hl
  unfold pX3_fewestFrom at hf
  refine lv_iload_n hx hb dX3_fewestFrom_0 rfl (lv_at hl 1 rfl) ?_
  refine lv_bipush (v := (124 : Int32)) hx hb dX3_fewestFrom_1 (by decide) ?_
  refine lv_imul hx hb dX3_fewestFrom_3 ?_
  refine lv_iload_n hx hb dX3_fewestFrom_4 rfl (lv_at hl 2 rfl) ?_
  refine lv_iadd hx hb dX3_fewestFrom_5 ?_
  refine lv_istore_n (lv' := [(3, .int ((a1 * (124 : Int32)) + a2)), (0, .ref h0), (1, .int a1), (2, .int a2)]) hx hb dX3_fewestFrom_6 rfl hl (by decide) rfl (fun ls hl => ?_)
  refine lv_iload_n hx hb dX3_fewestFrom_7 rfl (lv_at hl 0 rfl) ?_
  refine lv_if_lt (tgt := 29) hx hb dX3_fewestFrom_8 (by decide) (fun c_1 => ?_) (fun c_1 => ?_)
  · replace hf := hf.1 c_1
    refine lv_iconst (v := (0 : Int32)) hx hb dX3_fewestFrom_29 (by decide) ?_
    exact W.iret (v := (0 : Int32)) hx hb hr (fun t ht hW => ⟨(0 : Int32), rfl, hf, ht⟩) (fun q h => by cases h) dX3_fewestFrom_30
  · replace hf := hf.2 c_1
    refine lv_iload_n hx hb dX3_fewestFrom_11 rfl (lv_at hl 0 rfl) ?_
    refine lv_aload_n hx hb dX3_fewestFrom_12 rfl (lv_at hl 1 rfl) ?_
    refine va_get (D := (dC, dI)) (ci := 3) (v := .ref h1) (C := RX3) (T := TX3) (N := 5) hx hb hts iX3_fewestFrom_X3 hown hK hP 0 rfl rfl 0 (by decide) (hts _ mX3_fewestFrom_f9) (fun _ h9 => h9) rfl dX3_fewestFrom_13 ?_
    refine va_alen (v := (620 : Int32)) hx hb hK hP 1 0 rfl rfl rfl dX3_fewestFrom_16 ?_
    refine lv_icmp_ge (tgt := 29) hx hb dX3_fewestFrom_17 (by decide) (fun c_2 => ?_) (fun c_2 => ?_)
    · replace hf := hf.1 c_2
      refine lv_iconst (v := (0 : Int32)) hx hb dX3_fewestFrom_29 (by decide) ?_
      exact W.iret (v := (0 : Int32)) hx hb hr (fun t ht hW => ⟨(0 : Int32), rfl, hf, ht⟩) (fun q h => by cases h) dX3_fewestFrom_30
    · replace hf := hf.2 c_2
      refine lv_aload_n hx hb dX3_fewestFrom_20 rfl (lv_at hl 1 rfl) ?_
      refine va_get (D := (dC, dI)) (ci := 3) (v := .ref h1) (C := RX3) (T := TX3) (N := 5) hx hb hts iX3_fewestFrom_X3 hown hK hP 0 rfl rfl 0 (by decide) (hts _ mX3_fewestFrom_f9) (fun _ h9 => h9) rfl dX3_fewestFrom_21 ?_
      refine lv_iload_n hx hb dX3_fewestFrom_24 rfl (lv_at hl 0 rfl) ?_
      obtain ⟨h_3, hf⟩ := hf
      refine va_iald hx hb hK hP 1 0 rfl rfl h_3 dX3_fewestFrom_25 ?_
      refine lv_goto (tgt := 30) hx hb dX3_fewestFrom_26 (by decide) ?_
      exact W.iret (v := (s_fewest ((a1 * (124 : Int32)) + a2).toNatClampNeg)) hx hb hr (fun t ht hW => ⟨(s_fewest ((a1 * (124 : Int32)) + a2).toNatClampNeg), rfl, hf, ht⟩) (fun q h => by cases h) dX3_fewestFrom_30
set_option maxHeartbeats 4000000 in
set_option maxRecDepth 100000 in
theorem wX3_seekGoal_105 {p : Program} {e : Env} {s : State} {m : MethodId} {args : Array Value} {below : List Frame} {meth : Method} {c : Code} (C : CX p s m args meth c cX3_seekGoal 11 wsX3_seekGoal RX3 none) (hK : va_K (dC, dI) vwCl (TYS cI cL cB cZ cT cR) s) (hN : NW s) {A : Nat → Prop} (hA : ∀ q : Nat, s.heap.size ≤ q → A q) {h0 r_gains h1 h2 r1_kinds r1_passers r1_beasts r1_looks h3 h4 : Nat} {s_men s1_high s1_low s1_checks_size : Int32} {s_fewest s1_checks_cells : Nat → Int32} {k : Int32 → Int32 → Prop} {kb : Int32 → Int32 → Int32 → Int32 → Int32 → Int32 → Int32 → Int32 → Prop} (hkb : ∀ (x2 : Int32) (x4 : Int32) (x5 : Int32) (x6 : Int32) (x7 : Int32) (x8 : Int32) (s_goal : Int32) (s_goalMen : Int32) (H : Heap) (locs : List Loc) (ls : Array Slot), va_P (dC, dI) vwCl [(h0, .inr (3, [.ref h1, .ref r_gains, .int s_men, .int s_goal, .int s_goalMen])), (h1, .inl (cI, 620, .inl s_fewest)), (h2, .inr (5, [.ref r1_kinds, .ref r1_passers, .ref r1_beasts, .ref h3, .ref r1_looks, .int s1_high, .int s1_low])), (h3, .inr (7, [.int (5 : Int32), .int (3 : Int32), .ref h4, .int s1_checks_size])), (h4, .inl (cI, 15, .inl s1_checks_cells))] H → va_D A [(h0, .inr (3, [.ref h1, .ref r_gains, .int s_men, .int s_goal, .int s_goalMen])), (h1, .inl (cI, 620, .inl s_fewest)), (h2, .inr (5, [.ref r1_kinds, .ref r1_passers, .ref r1_beasts, .ref h3, .ref r1_looks, .int s1_high, .int s1_low])), (h3, .inr (7, [.int (5 : Int32), .int (3 : Int32), .ref h4, .int s1_checks_size])), (h4, .inl (cI, 15, .inl s1_checks_cells))] → va_S A s.heap H locs → lv_has ls 11 [(0, .ref h0), (1, .ref h2), (2, .int x2), (4, .int x4), (5, .int x5), (6, .int x6), (7, .int x7), (8, .int x8)] → kb x2 x4 x5 x6 x7 x8 s_goal s_goalMen → W p l e ({ frames := 1, cells := 0, slots := 0, locals := 24 } : Room) s m args below meth c H locs 0 0 (MQ below (va_Qv (fun (u : Int32 × Int32) => k u.1 u.2) (fun (u : Int32 × Int32) t => va_P (dC, dI) vwCl [(h0, .inr (3, [.ref h1, .ref r_gains, .int s_men, .int u.1, .int u.2])), (h1, .inl (cI, 620, .inl s_fewest)), (h2, .inr (5, [.ref r1_kinds, .ref r1_passers, .ref r1_beasts, .ref h3, .ref r1_looks, .int s1_high, .int s1_low])), (h3, .inr (7, [.int (5 : Int32), .int (3 : Int32), .ref h4, .int s1_checks_size])), (h4, .inl (cI, 15, .inl s1_checks_cells))] t.heap ∧ va_D A [(h0, .inr (3, [.ref h1, .ref r_gains, .int s_men, .int u.1, .int u.2])), (h1, .inl (cI, 620, .inl s_fewest)), (h2, .inr (5, [.ref r1_kinds, .ref r1_passers, .ref r1_beasts, .ref h3, .ref r1_looks, .int s1_high, .int s1_low])), (h3, .inr (7, [.int (5 : Int32), .int (3 : Int32), .ref h4, .int s1_checks_size])), (h4, .inl (cI, 15, .inl s1_checks_cells))]) A) args s 0 0 A) (F0 m 61 ls [])) : ∀ (x2 : Int32) (x4 : Int32) (x5 : Int32) (x6 : Int32) (x7 : Int32) (x8 : Int32) (y0 : Int32) (s_goal : Int32) (s_goalMen : Int32) (H : Heap) (locs : List Loc) (ls : Array Slot), va_P (dC, dI) vwCl [(h0, .inr (3, [.ref h1, .ref r_gains, .int s_men, .int s_goal, .int s_goalMen])), (h1, .inl (cI, 620, .inl s_fewest)), (h2, .inr (5, [.ref r1_kinds, .ref r1_passers, .ref r1_beasts, .ref h3, .ref r1_looks, .int s1_high, .int s1_low])), (h3, .inr (7, [.int (5 : Int32), .int (3 : Int32), .ref h4, .int s1_checks_size])), (h4, .inl (cI, 15, .inl s1_checks_cells))] H → va_D A [(h0, .inr (3, [.ref h1, .ref r_gains, .int s_men, .int s_goal, .int s_goalMen])), (h1, .inl (cI, 620, .inl s_fewest)), (h2, .inr (5, [.ref r1_kinds, .ref r1_passers, .ref r1_beasts, .ref h3, .ref r1_looks, .int s1_high, .int s1_low])), (h3, .inr (7, [.int (5 : Int32), .int (3 : Int32), .ref h4, .int s1_checks_size])), (h4, .inl (cI, 15, .inl s1_checks_cells))] → va_S A s.heap H locs → lv_has ls 11 [(0, .ref h0), (1, .ref h2), (2, .int x2), (4, .int x4), (5, .int x5), (6, .int x6), (7, .int x7), (8, .int x8)] → pX3_seekGoal_105 kb x2 x4 x5 x6 x7 x8 y0 s_goal s_goalMen → W p l e ({ frames := 1, cells := 0, slots := 0, locals := 24 } : Room) s m args below meth c H locs 0 0 (MQ below (va_Qv (fun (u : Int32 × Int32) => k u.1 u.2) (fun (u : Int32 × Int32) t => va_P (dC, dI) vwCl [(h0, .inr (3, [.ref h1, .ref r_gains, .int s_men, .int u.1, .int u.2])), (h1, .inl (cI, 620, .inl s_fewest)), (h2, .inr (5, [.ref r1_kinds, .ref r1_passers, .ref r1_beasts, .ref h3, .ref r1_looks, .int s1_high, .int s1_low])), (h3, .inr (7, [.int (5 : Int32), .int (3 : Int32), .ref h4, .int s1_checks_size])), (h4, .inl (cI, 15, .inl s1_checks_cells))] t.heap ∧ va_D A [(h0, .inr (3, [.ref h1, .ref r_gains, .int s_men, .int u.1, .int u.2])), (h1, .inl (cI, 620, .inl s_fewest)), (h2, .inr (5, [.ref r1_kinds, .ref r1_passers, .ref r1_beasts, .ref h3, .ref r1_looks, .int s1_high, .int s1_low])), (h3, .inr (7, [.int (5 : Int32), .int (3 : Int32), .ref h4, .int s1_checks_size])), (h4, .inl (cI, 15, .inl s1_checks_cells))]) A) args s 0 0 A) (F0 m 105 ls [.int y0]) := by
  obtain ⟨hx, hb, hml, hown, hts, hr, hlocks⟩ := id C
  intro x2 x4 x5 x6 x7 x8 y0 s_goal s_goalMen H locs ls hP hD hS hl hf
  unfold pX3_seekGoal_105 at hf
  refine lv_istore (lv' := [(10, .int y0), (0, .ref h0), (1, .ref h2), (2, .int x2), (4, .int x4), (5, .int x5), (6, .int x6), (7, .int x7), (8, .int x8)]) hx hb dX3_seekGoal_105 hl (by decide) rfl (fun ls hl => ?_)
  refine lv_iload hx hb dX3_seekGoal_107 (lv_at hl 0 rfl) ?_
  refine lv_aload_n hx hb dX3_seekGoal_109 rfl (lv_at hl 1 rfl) ?_
  refine va_get (D := (dC, dI)) (ci := 3) (v := .int s_goalMen) (C := RX3) (T := TX3) (N := 5) hx hb hts iX3_seekGoal_X3 hown hK hP 0 rfl rfl 4 (by decide) (hts _ mX3_seekGoal_f25) (fun _ h9 => h9) rfl dX3_seekGoal_110 ?_
  refine lv_icmp_ge (tgt := 128) hx hb dX3_seekGoal_113 (by decide) (fun c_11 => ?_) (fun c_11 => ?_)
  · replace hf := hf.1 c_11
    refine lv_iinc (v := (x8 + 1)) (lv' := [(8, .int (x8 + 1)), (10, .int y0), (0, .ref h0), (1, .ref h2), (2, .int x2), (4, .int x4), (5, .int x5), (6, .int x6), (7, .int x7)]) hx hb dX3_seekGoal_128 hl (k := 8) rfl (by rfl) (by decide) rfl (fun ls hl => ?_)
    refine lv_goto (tgt := 61) hx hb dX3_seekGoal_131 (by decide) ?_
    exact hkb x2 x4 x5 x6 x7 (x8 + 1) s_goal s_goalMen H locs ls hP hD hS (lv_sub hl [2, 3, 4, 5, 6, 7, 8, 0] rfl) hf
  · replace hf := hf.2 c_11
    refine lv_aload_n hx hb dX3_seekGoal_116 rfl (lv_at hl 1 rfl) ?_
    refine lv_iload hx hb dX3_seekGoal_117 (lv_at hl 8 rfl) ?_
    refine va_put (D := (dC, dI)) (ci := 3) (v := .int x8) (ty := .int) (C := RX3) (T := TX3) (N := 5) hx hb hts iX3_seekGoal_X3 tyX3 tyX3_ok nmX3 hown hK hP hD hS 0 rfl rfl 3 (by decide) (hts _ mX3_seekGoal_f22) (fun _ h9 => h9) rfl (by decide +kernel) rfl rfl (Nat.le_of_ble_eq_true rfl) dX3_seekGoal_119 (fun H locs hP hD hS => ?_)
    replace hP : va_P (dC, dI) vwCl [(h0, .inr (3, [.ref h1, .ref r_gains, .int s_men, .int x8, .int s_goalMen])), (h1, .inl (cI, 620, .inl s_fewest)), (h2, .inr (5, [.ref r1_kinds, .ref r1_passers, .ref r1_beasts, .ref h3, .ref r1_looks, .int s1_high, .int s1_low])), (h3, .inr (7, [.int (5 : Int32), .int (3 : Int32), .ref h4, .int s1_checks_size])), (h4, .inl (cI, 15, .inl s1_checks_cells))] H := hP
    replace hD : va_D A [(h0, .inr (3, [.ref h1, .ref r_gains, .int s_men, .int x8, .int s_goalMen])), (h1, .inl (cI, 620, .inl s_fewest)), (h2, .inr (5, [.ref r1_kinds, .ref r1_passers, .ref r1_beasts, .ref h3, .ref r1_looks, .int s1_high, .int s1_low])), (h3, .inr (7, [.int (5 : Int32), .int (3 : Int32), .ref h4, .int s1_checks_size])), (h4, .inl (cI, 15, .inl s1_checks_cells))] := hD
    refine lv_aload_n hx hb dX3_seekGoal_122 rfl (lv_at hl 1 rfl) ?_
    refine lv_iload hx hb dX3_seekGoal_123 (lv_at hl 0 rfl) ?_
    refine va_put (D := (dC, dI)) (ci := 3) (v := .int y0) (ty := .int) (C := RX3) (T := TX3) (N := 5) hx hb hts iX3_seekGoal_X3 tyX3 tyX3_ok nmX3 hown hK hP hD hS 0 rfl rfl 4 (by decide) (hts _ mX3_seekGoal_f25) (fun _ h9 => h9) rfl (by decide +kernel) rfl rfl (Nat.le_of_ble_eq_true rfl) dX3_seekGoal_125 (fun H locs hP hD hS => ?_)
    replace hP : va_P (dC, dI) vwCl [(h0, .inr (3, [.ref h1, .ref r_gains, .int s_men, .int x8, .int y0])), (h1, .inl (cI, 620, .inl s_fewest)), (h2, .inr (5, [.ref r1_kinds, .ref r1_passers, .ref r1_beasts, .ref h3, .ref r1_looks, .int s1_high, .int s1_low])), (h3, .inr (7, [.int (5 : Int32), .int (3 : Int32), .ref h4, .int s1_checks_size])), (h4, .inl (cI, 15, .inl s1_checks_cells))] H := hP
    replace hD : va_D A [(h0, .inr (3, [.ref h1, .ref r_gains, .int s_men, .int x8, .int y0])), (h1, .inl (cI, 620, .inl s_fewest)), (h2, .inr (5, [.ref r1_kinds, .ref r1_passers, .ref r1_beasts, .ref h3, .ref r1_looks, .int s1_high, .int s1_low])), (h3, .inr (7, [.int (5 : Int32), .int (3 : Int32), .ref h4, .int s1_checks_size])), (h4, .inl (cI, 15, .inl s1_checks_cells))] := hD
    refine lv_iinc (v := (x8 + 1)) (lv' := [(8, .int (x8 + 1)), (10, .int y0), (0, .ref h0), (1, .ref h2), (2, .int x2), (4, .int x4), (5, .int x5), (6, .int x6), (7, .int x7)]) hx hb dX3_seekGoal_128 hl (k := 8) rfl (by rfl) (by decide) rfl (fun ls hl => ?_)
    refine lv_goto (tgt := 61) hx hb dX3_seekGoal_131 (by decide) ?_
    exact hkb x2 x4 x5 x6 x7 (x8 + 1) x8 y0 H locs ls hP hD hS (lv_sub hl [2, 3, 4, 5, 6, 7, 8, 0] rfl) hf
set_option maxHeartbeats 4000000 in
set_option maxRecDepth 100000 in
theorem wX3_seekGoal_61 {p : Program} {e : Env} {s : State} {m : MethodId} {args : Array Value} {below : List Frame} {meth : Method} {c : Code} (C : CX p s m args meth c cX3_seekGoal 11 wsX3_seekGoal RX3 none) (hK : va_K (dC, dI) vwCl (TYS cI cL cB cZ cT cR) s) (hN : NW s) {A : Nat → Prop} (hA : ∀ q : Nat, s.heap.size ≤ q → A q) {h0 r_gains h1 h2 r1_kinds r1_passers r1_beasts r1_looks h3 h4 : Nat} {s_men s1_high s1_low s1_checks_size : Int32} {s_fewest s1_checks_cells : Nat → Int32} {k : Int32 → Int32 → Prop} {kx : Int32 → Int32 → Prop} (hkx : ∀ (s_goal : Int32) (s_goalMen : Int32) (H : Heap) (locs : List Loc) (ls : Array Slot), va_P (dC, dI) vwCl [(h0, .inr (3, [.ref h1, .ref r_gains, .int s_men, .int s_goal, .int s_goalMen])), (h1, .inl (cI, 620, .inl s_fewest)), (h2, .inr (5, [.ref r1_kinds, .ref r1_passers, .ref r1_beasts, .ref h3, .ref r1_looks, .int s1_high, .int s1_low])), (h3, .inr (7, [.int (5 : Int32), .int (3 : Int32), .ref h4, .int s1_checks_size])), (h4, .inl (cI, 15, .inl s1_checks_cells))] H → va_D A [(h0, .inr (3, [.ref h1, .ref r_gains, .int s_men, .int s_goal, .int s_goalMen])), (h1, .inl (cI, 620, .inl s_fewest)), (h2, .inr (5, [.ref r1_kinds, .ref r1_passers, .ref r1_beasts, .ref h3, .ref r1_looks, .int s1_high, .int s1_low])), (h3, .inr (7, [.int (5 : Int32), .int (3 : Int32), .ref h4, .int s1_checks_size])), (h4, .inl (cI, 15, .inl s1_checks_cells))] → va_S A s.heap H locs → lv_has ls 11 [(0, .ref h0), (1, .ref h2)] → kx s_goal s_goalMen → W p l e ({ frames := 1, cells := 0, slots := 0, locals := 24 } : Room) s m args below meth c H locs 0 0 (MQ below (va_Qv (fun (u : Int32 × Int32) => k u.1 u.2) (fun (u : Int32 × Int32) t => va_P (dC, dI) vwCl [(h0, .inr (3, [.ref h1, .ref r_gains, .int s_men, .int u.1, .int u.2])), (h1, .inl (cI, 620, .inl s_fewest)), (h2, .inr (5, [.ref r1_kinds, .ref r1_passers, .ref r1_beasts, .ref h3, .ref r1_looks, .int s1_high, .int s1_low])), (h3, .inr (7, [.int (5 : Int32), .int (3 : Int32), .ref h4, .int s1_checks_size])), (h4, .inl (cI, 15, .inl s1_checks_cells))] t.heap ∧ va_D A [(h0, .inr (3, [.ref h1, .ref r_gains, .int s_men, .int u.1, .int u.2])), (h1, .inl (cI, 620, .inl s_fewest)), (h2, .inr (5, [.ref r1_kinds, .ref r1_passers, .ref r1_beasts, .ref h3, .ref r1_looks, .int s1_high, .int s1_low])), (h3, .inr (7, [.int (5 : Int32), .int (3 : Int32), .ref h4, .int s1_checks_size])), (h4, .inl (cI, 15, .inl s1_checks_cells))]) A) args s 0 0 A) (F0 m 134 ls [])) : ∀ (n61 : Nat), ∀ (x2 : Int32) (x4 : Int32) (x5 : Int32) (x6 : Int32) (x7 : Int32) (x8 : Int32) (s_goal : Int32) (s_goalMen : Int32) (H : Heap) (locs : List Loc) (ls : Array Slot), va_P (dC, dI) vwCl [(h0, .inr (3, [.ref h1, .ref r_gains, .int s_men, .int s_goal, .int s_goalMen])), (h1, .inl (cI, 620, .inl s_fewest)), (h2, .inr (5, [.ref r1_kinds, .ref r1_passers, .ref r1_beasts, .ref h3, .ref r1_looks, .int s1_high, .int s1_low])), (h3, .inr (7, [.int (5 : Int32), .int (3 : Int32), .ref h4, .int s1_checks_size])), (h4, .inl (cI, 15, .inl s1_checks_cells))] H → va_D A [(h0, .inr (3, [.ref h1, .ref r_gains, .int s_men, .int s_goal, .int s_goalMen])), (h1, .inl (cI, 620, .inl s_fewest)), (h2, .inr (5, [.ref r1_kinds, .ref r1_passers, .ref r1_beasts, .ref h3, .ref r1_looks, .int s1_high, .int s1_low])), (h3, .inr (7, [.int (5 : Int32), .int (3 : Int32), .ref h4, .int s1_checks_size])), (h4, .inl (cI, 15, .inl s1_checks_cells))] → va_S A s.heap H locs → lv_has ls 11 [(0, .ref h0), (1, .ref h2), (2, .int x2), (4, .int x4), (5, .int x5), (6, .int x6), (7, .int x7), (8, .int x8)] → pX3_seekGoal_61 s_fewest kx n61 x2 x4 x5 x6 x7 x8 s_goal s_goalMen → W p l e ({ frames := 1, cells := 0, slots := 0, locals := 24 } : Room) s m args below meth c H locs 0 0 (MQ below (va_Qv (fun (u : Int32 × Int32) => k u.1 u.2) (fun (u : Int32 × Int32) t => va_P (dC, dI) vwCl [(h0, .inr (3, [.ref h1, .ref r_gains, .int s_men, .int u.1, .int u.2])), (h1, .inl (cI, 620, .inl s_fewest)), (h2, .inr (5, [.ref r1_kinds, .ref r1_passers, .ref r1_beasts, .ref h3, .ref r1_looks, .int s1_high, .int s1_low])), (h3, .inr (7, [.int (5 : Int32), .int (3 : Int32), .ref h4, .int s1_checks_size])), (h4, .inl (cI, 15, .inl s1_checks_cells))] t.heap ∧ va_D A [(h0, .inr (3, [.ref h1, .ref r_gains, .int s_men, .int u.1, .int u.2])), (h1, .inl (cI, 620, .inl s_fewest)), (h2, .inr (5, [.ref r1_kinds, .ref r1_passers, .ref r1_beasts, .ref h3, .ref r1_looks, .int s1_high, .int s1_low])), (h3, .inr (7, [.int (5 : Int32), .int (3 : Int32), .ref h4, .int s1_checks_size])), (h4, .inl (cI, 15, .inl s1_checks_cells))]) A) args s 0 0 A) (F0 m 61 ls []) := by
  obtain ⟨hx, hb, hml, hown, hts, hr, hlocks⟩ := id C
  intro n61
  induction n61 with
  | zero =>
    intro x2 x4 x5 x6 x7 x8 s_goal s_goalMen H locs ls hP hD hS hl hf
    rw [pX3_seekGoal_61] at hf
    exact hf.elim
  | succ n61 ih =>
    intro x2 x4 x5 x6 x7 x8 s_goal s_goalMen H locs ls hP hD hS hl hf
    rw [pX3_seekGoal_61] at hf
    refine lv_iload hx hb dX3_seekGoal_61 (lv_at hl 7 rfl) ?_
    refine lv_iload hx hb dX3_seekGoal_63 (lv_at hl 5 rfl) ?_
    refine lv_icmp_gt (tgt := 134) hx hb dX3_seekGoal_65 (by decide) (fun c_7 => ?_) (fun c_7 => ?_)
    · replace hf := hf.1 c_7
      exact hkx s_goal s_goalMen H locs ls hP hD hS (lv_sub hl [0, 1] rfl) hf
    · replace hf := hf.2 c_7
      refine lv_iload hx hb dX3_seekGoal_68 (lv_at hl 7 rfl) ?_
      refine lv_iload hx hb dX3_seekGoal_70 (lv_at hl 3 rfl) ?_
      refine lv_isub hx hb dX3_seekGoal_72 ?_
      refine va_mabs hx hb (hml.trans hl.1.symm) hown (hts _ mX3_seekGoal_c67) (hts _ mX3_seekGoal_sabs) (hts _ mX3_seekGoal_iMath) (hts _ mX3_seekGoal_kabs) (Nat.le_of_ble_eq_true rfl) (Nat.le_of_ble_eq_true rfl) (Nat.zero_le _) (Nat.zero_le _) dX3_seekGoal_73 ?_
      refine W.eq (g2 := F0 m 76 ls [.int (mabs (x8 - x4))]) rfl ?_
      refine lv_istore (lv' := [(9, .int (mabs (x8 - x4))), (0, .ref h0), (1, .ref h2), (2, .int x2), (4, .int x4), (5, .int x5), (6, .int x6), (7, .int x7), (8, .int x8)]) hx hb dX3_seekGoal_76 hl (by decide) rfl (fun ls hl => ?_)
      refine lv_iload hx hb dX3_seekGoal_78 (lv_at hl 7 rfl) ?_
      refine lv_if_eq (tgt := 88) hx hb dX3_seekGoal_80 (by decide) (fun c_8 => ?_) (fun c_8 => ?_)
      · replace hf := hf.1 c_8
        refine lv_iload hx hb dX3_seekGoal_88 (lv_at hl 0 rfl) ?_
        refine lv_aload_n hx hb dX3_seekGoal_90 rfl (lv_at hl 1 rfl) ?_
        refine lv_iload_n hx hb dX3_seekGoal_91 rfl (lv_at hl 3 rfl) ?_
        refine lv_iconst (v := (1 : Int32)) hx hb dX3_seekGoal_92 (by decide) ?_
        refine lv_iadd hx hb dX3_seekGoal_93 ?_
        refine lv_iload hx hb dX3_seekGoal_94 (lv_at hl 8 rfl) ?_
        refine lv_iload hx hb dX3_seekGoal_96 (lv_at hl 5 rfl) ?_
        have hPc := hP.sub (ws' := []) [] rfl
        refine ro_calli (va_runSN (As := [.int x8, .int x5]) (rest := [.int (x2 + (1 : Int32)), .ref h0, .int (mabs (x8 - x4))]) ⟨hx, hb, hml, hown, hts⟩ (metX11_stand hf) ⟨va_cnB 2 hts gX3_seekGoal_X11_stand_n75 rfl rfl rfl (hN _ nwm_8) (hts _ mX3_seekGoal_iX11) kX11_stand ⟨Nat.le_of_ble_eq_true rfl, Nat.le_of_ble_eq_true rfl⟩, hts _ mX3_seekGoal_sX11_stand, trivial⟩ ⟨PW.blind, fun U hU hW => ⟨rfl, PW.go hU hW hPc hK hN⟩⟩ rfl rfl hl.1 rfl (lv_room (Nat.le_of_ble_eq_true rfl)) dX3_seekGoal_98 ⟨Nat.zero_le _, Nat.zero_le _⟩) (fun r_9 hf => ?_)
        have hPc := hP.sub (ws' := [(h0, .inr (3, [.ref h1, .ref r_gains, .int s_men, .int s_goal, .int s_goalMen])), (h1, .inl (cI, 620, .inl s_fewest))]) [0, 1] rfl
        refine ro_calli (va_runV (As := [.int (x2 + (1 : Int32)), .int r_9]) (rest := [.int (mabs (x8 - x4))]) ⟨hx, hb, hml, hown, hts⟩ (metX3_fewestFrom hf) (cwV 2 hts gX3_seekGoal_X3_fewestFrom rfl rfl rfl ⟨rfl, kX3_fewestFrom⟩ ⟨Nat.le_of_ble_eq_true rfl, Nat.le_of_ble_eq_true rfl⟩) ⟨PW.blind, va_recv hK hPc (ci := 3) (q0 := 0) rfl rfl, fun U hU hW => ⟨rfl, PW.go hU hW hPc hK hN⟩⟩ rfl rfl hl.1 rfl (lv_room (Nat.le_of_ble_eq_true rfl)) dX3_seekGoal_101 ⟨Nat.zero_le _, Nat.zero_le _⟩) (fun r_10 hf => ?_)
        refine lv_iadd hx hb dX3_seekGoal_104 ?_
        exact wX3_seekGoal_105 C hK hN hA ih x2 x4 x5 x6 x7 x8 ((mabs (x8 - x4)) + r_10) s_goal s_goalMen H locs ls hP hD hS (lv_sub hl [1, 2, 3, 4, 5, 6, 7, 8] rfl) hf
      · replace hf := hf.2 c_8
        refine lv_iload hx hb dX3_seekGoal_83 (lv_at hl 0 rfl) ?_
        refine lv_goto (tgt := 105) hx hb dX3_seekGoal_85 (by decide) ?_
        exact wX3_seekGoal_105 C hK hN hA ih x2 x4 x5 x6 x7 x8 (mabs (x8 - x4)) s_goal s_goalMen H locs ls hP hD hS (lv_sub hl [1, 2, 3, 4, 5, 6, 7, 8] rfl) hf
set_option maxHeartbeats 4000000 in
set_option maxRecDepth 100000 in
theorem wX3_seekGoal_41 {p : Program} {e : Env} {s : State} {m : MethodId} {args : Array Value} {below : List Frame} {meth : Method} {c : Code} (C : CX p s m args meth c cX3_seekGoal 11 wsX3_seekGoal RX3 none) (hK : va_K (dC, dI) vwCl (TYS cI cL cB cZ cT cR) s) (hN : NW s) {A : Nat → Prop} (hA : ∀ q : Nat, s.heap.size ≤ q → A q) {h0 r_gains h1 h2 r1_kinds r1_passers r1_beasts r1_looks h3 h4 : Nat} {s_men s1_high s1_low s1_checks_size : Int32} {s_fewest s1_checks_cells : Nat → Int32} {k : Int32 → Int32 → Prop} : ∀ (x2 : Int32) (x4 : Int32) (x5 : Int32) (x6 : Int32) (y0 : Int32) (s_goal : Int32) (s_goalMen : Int32) (H : Heap) (locs : List Loc) (ls : Array Slot), va_P (dC, dI) vwCl [(h0, .inr (3, [.ref h1, .ref r_gains, .int s_men, .int s_goal, .int s_goalMen])), (h1, .inl (cI, 620, .inl s_fewest)), (h2, .inr (5, [.ref r1_kinds, .ref r1_passers, .ref r1_beasts, .ref h3, .ref r1_looks, .int s1_high, .int s1_low])), (h3, .inr (7, [.int (5 : Int32), .int (3 : Int32), .ref h4, .int s1_checks_size])), (h4, .inl (cI, 15, .inl s1_checks_cells))] H → va_D A [(h0, .inr (3, [.ref h1, .ref r_gains, .int s_men, .int s_goal, .int s_goalMen])), (h1, .inl (cI, 620, .inl s_fewest)), (h2, .inr (5, [.ref r1_kinds, .ref r1_passers, .ref r1_beasts, .ref h3, .ref r1_looks, .int s1_high, .int s1_low])), (h3, .inr (7, [.int (5 : Int32), .int (3 : Int32), .ref h4, .int s1_checks_size])), (h4, .inl (cI, 15, .inl s1_checks_cells))] → va_S A s.heap H locs → lv_has ls 11 [(0, .ref h0), (1, .ref h2), (2, .int x2), (4, .int x4), (5, .int x5), (6, .int x6)] → pX3_seekGoal_41 s_fewest s1_checks_cells k x2 x4 x5 x6 y0 s_goal s_goalMen → W p l e ({ frames := 1, cells := 0, slots := 0, locals := 24 } : Room) s m args below meth c H locs 0 0 (MQ below (va_Qv (fun (u : Int32 × Int32) => k u.1 u.2) (fun (u : Int32 × Int32) t => va_P (dC, dI) vwCl [(h0, .inr (3, [.ref h1, .ref r_gains, .int s_men, .int u.1, .int u.2])), (h1, .inl (cI, 620, .inl s_fewest)), (h2, .inr (5, [.ref r1_kinds, .ref r1_passers, .ref r1_beasts, .ref h3, .ref r1_looks, .int s1_high, .int s1_low])), (h3, .inr (7, [.int (5 : Int32), .int (3 : Int32), .ref h4, .int s1_checks_size])), (h4, .inl (cI, 15, .inl s1_checks_cells))] t.heap ∧ va_D A [(h0, .inr (3, [.ref h1, .ref r_gains, .int s_men, .int u.1, .int u.2])), (h1, .inl (cI, 620, .inl s_fewest)), (h2, .inr (5, [.ref r1_kinds, .ref r1_passers, .ref r1_beasts, .ref h3, .ref r1_looks, .int s1_high, .int s1_low])), (h3, .inr (7, [.int (5 : Int32), .int (3 : Int32), .ref h4, .int s1_checks_size])), (h4, .inl (cI, 15, .inl s1_checks_cells))]) A) args s 0 0 A) (F0 m 41 ls [.int y0]) := by
  obtain ⟨hx, hb, hml, hown, hts, hr, hlocks⟩ := id C
  intro x2 x4 x5 x6 y0 s_goal s_goalMen H locs ls hP hD hS hl hf
  unfold pX3_seekGoal_41 at hf
  refine lv_istore (lv' := [(7, .int y0), (0, .ref h0), (1, .ref h2), (2, .int x2), (4, .int x4), (5, .int x5), (6, .int x6)]) hx hb dX3_seekGoal_41 hl (by decide) rfl (fun ls hl => ?_)
  refine lv_aload_n hx hb dX3_seekGoal_43 rfl (lv_at hl 1 rfl) ?_
  refine lv_sipush (v := (155 : Int32)) hx hb dX3_seekGoal_44 (by decide) ?_
  refine va_put (D := (dC, dI)) (ci := 3) (v := .int (155 : Int32)) (ty := .int) (C := RX3) (T := TX3) (N := 5) hx hb hts iX3_seekGoal_X3 tyX3 tyX3_ok nmX3 hown hK hP hD hS 0 rfl rfl 4 (by decide) (hts _ mX3_seekGoal_f25) (fun _ h9 => h9) rfl (by decide +kernel) rfl rfl (Nat.le_of_ble_eq_true rfl) dX3_seekGoal_47 (fun H locs hP hD hS => ?_)
  replace hP : va_P (dC, dI) vwCl [(h0, .inr (3, [.ref h1, .ref r_gains, .int s_men, .int s_goal, .int (155 : Int32)])), (h1, .inl (cI, 620, .inl s_fewest)), (h2, .inr (5, [.ref r1_kinds, .ref r1_passers, .ref r1_beasts, .ref h3, .ref r1_looks, .int s1_high, .int s1_low])), (h3, .inr (7, [.int (5 : Int32), .int (3 : Int32), .ref h4, .int s1_checks_size])), (h4, .inl (cI, 15, .inl s1_checks_cells))] H := hP
  replace hD : va_D A [(h0, .inr (3, [.ref h1, .ref r_gains, .int s_men, .int s_goal, .int (155 : Int32)])), (h1, .inl (cI, 620, .inl s_fewest)), (h2, .inr (5, [.ref r1_kinds, .ref r1_passers, .ref r1_beasts, .ref h3, .ref r1_looks, .int s1_high, .int s1_low])), (h3, .inr (7, [.int (5 : Int32), .int (3 : Int32), .ref h4, .int s1_checks_size])), (h4, .inl (cI, 15, .inl s1_checks_cells))] := hD
  refine lv_aload_n hx hb dX3_seekGoal_50 rfl (lv_at hl 2 rfl) ?_
  refine va_getN (D := (dC, dI)) (ci := 5) (v := .ref h3) (C := RX5) (T := TX5) (N := 7) hx hb hts iX3_seekGoal_X5 hown hK hP 2 rfl rfl 3 (by decide) (va_Nw.use rfl (hN _ nwf_3)) (fun _ h9 => h9) rfl dX3_seekGoal_51 ?_
  refine lv_iload_n hx hb dX3_seekGoal_54 rfl (lv_at hl 3 rfl) ?_
  refine lv_iconst (v := (1 : Int32)) hx hb dX3_seekGoal_55 (by decide) ?_
  have hPc := hP.sub (ws' := [(h3, .inr (7, [.int (5 : Int32), .int (3 : Int32), .ref h4, .int s1_checks_size])), (h4, .inl (cI, 15, .inl s1_checks_cells))]) [3, 4] rfl
  refine ro_calli (va_runV (As := [.int x2, .int (1 : Int32)]) (rest := []) ⟨hx, hb, hml, hown, hts⟩ (metX7_at hf) (cwV 2 hts gX3_seekGoal_X7_at rfl rfl rfl ⟨rfl, kX7_at⟩ ⟨Nat.le_of_ble_eq_true rfl, Nat.le_of_ble_eq_true rfl⟩) ⟨PW.blind, va_recv hK hPc (ci := 7) (q0 := 0) rfl rfl, fun U hU hW => ⟨rfl, PW.go hU hW hPc hK hN⟩⟩ rfl rfl hl.1 rfl (lv_room (Nat.le_of_ble_eq_true rfl)) dX3_seekGoal_56 ⟨Nat.zero_le _, Nat.zero_le _⟩) (fun r_6 hf => ?_)
  refine lv_istore (lv' := [(8, .int r_6), (7, .int y0), (0, .ref h0), (1, .ref h2), (2, .int x2), (4, .int x4), (5, .int x5), (6, .int x6)]) hx hb dX3_seekGoal_59 hl (by decide) rfl (fun ls hl => ?_)
  obtain ⟨n61, hf⟩ := hf
  refine wX3_seekGoal_61 C hK hN hA (fun s_goal_12 s_goalMen_12 H locs ls hP hD hS hl hf => ?_) n61 x2 x4 x5 x6 y0 r_6 s_goal (155 : Int32) H locs ls hP hD hS (lv_sub hl [2, 3, 4, 5, 6, 7, 1, 0] rfl) hf
  exact W.vret hx hb hr (fun t ht hW => ⟨⟨(s_goal_12, s_goalMen_12), rfl, hf, by rw [ht]; exact hP, hD⟩, hS.F ht⟩) hS.2.2 dX3_seekGoal_134
set_option maxHeartbeats 4000000 in
set_option maxRecDepth 100000 in
theorem metX3_seekGoal {h0 r_gains h1 h2 r1_kinds r1_passers r1_beasts r1_looks h3 h4 : Nat} {s_men s_goal s_goalMen s1_high s1_low s1_checks_size : Int32} {s_fewest s1_checks_cells : Nat → Int32} {a2 : Int32} {a3 : Int32} {sz : Nat} {k : Int32 → Int32 → Prop} (hf : pX3_seekGoal s_goal s_goalMen s_fewest s1_checks_size s1_checks_cells a2 a3 k) : Met l yX3_seekGoal wsX3_seekGoal ({ frames := 1, cells := 0, slots := 0, locals := 24 } : Room) (va_Pc [.ref h0, .ref h2, .int a2, .int a3] (PR dC dI (TYS cI cL cB cZ cT cR) [(h0, .inr (3, [.ref h1, .ref r_gains, .int s_men, .int s_goal, .int s_goalMen])), (h1, .inl (cI, 620, .inl s_fewest)), (h2, .inr (5, [.ref r1_kinds, .ref r1_passers, .ref r1_beasts, .ref h3, .ref r1_looks, .int s1_high, .int s1_low])), (h3, .inr (7, [.int (5 : Int32), .int (3 : Int32), .ref h4, .int s1_checks_size])), (h4, .inl (cI, 15, .inl s1_checks_cells))] sz)) (va_Qv (fun (u : Int32 × Int32) => k u.1 u.2) (fun (u : Int32 × Int32) t => va_P (dC, dI) vwCl [(h0, .inr (3, [.ref h1, .ref r_gains, .int s_men, .int u.1, .int u.2])), (h1, .inl (cI, 620, .inl s_fewest)), (h2, .inr (5, [.ref r1_kinds, .ref r1_passers, .ref r1_beasts, .ref h3, .ref r1_looks, .int s1_high, .int s1_low])), (h3, .inr (7, [.int (5 : Int32), .int (3 : Int32), .ref h4, .int s1_checks_size])), (h4, .inl (cI, 15, .inl s1_checks_cells))] t.heap ∧ va_D (va_A [(h0, .inr (3, [.ref h1, .ref r_gains, .int s_men, .int s_goal, .int s_goalMen])), (h1, .inl (cI, 620, .inl s_fewest)), (h2, .inr (5, [.ref r1_kinds, .ref r1_passers, .ref r1_beasts, .ref h3, .ref r1_looks, .int s1_high, .int s1_low])), (h3, .inr (7, [.int (5 : Int32), .int (3 : Int32), .ref h4, .int s1_checks_size])), (h4, .inl (cI, 15, .inl s1_checks_cells))] sz) [(h0, .inr (3, [.ref h1, .ref r_gains, .int s_men, .int u.1, .int u.2])), (h1, .inl (cI, 620, .inl s_fewest)), (h2, .inr (5, [.ref r1_kinds, .ref r1_passers, .ref r1_beasts, .ref h3, .ref r1_looks, .int s1_high, .int s1_low])), (h3, .inr (7, [.int (5 : Int32), .int (3 : Int32), .ref h4, .int s1_checks_size])), (h4, .inl (cI, 15, .inl s1_checks_cells))]) (va_A [(h0, .inr (3, [.ref h1, .ref r_gains, .int s_men, .int s_goal, .int s_goalMen])), (h1, .inl (cI, 620, .inl s_fewest)), (h2, .inr (5, [.ref r1_kinds, .ref r1_passers, .ref r1_beasts, .ref h3, .ref r1_looks, .int s1_high, .int s1_low])), (h3, .inr (7, [.int (5 : Int32), .int (3 : Int32), .ref h4, .int s1_checks_size])), (h4, .inl (cI, 15, .inl s1_checks_cells))] sz)) 0 0 (va_A [(h0, .inr (3, [.ref h1, .ref r_gains, .int s_men, .int s_goal, .int s_goalMen])), (h1, .inl (cI, 620, .inl s_fewest)), (h2, .inr (5, [.ref r1_kinds, .ref r1_passers, .ref r1_beasts, .ref h3, .ref r1_looks, .int s1_high, .int s1_low])), (h3, .inr (7, [.int (5 : Int32), .int (3 : Int32), .ref h4, .int s1_checks_size])), (h4, .inl (cI, 15, .inl s1_checks_cells))] sz) := by
  refine Met.ofW (cc := cX3_seekGoal) (maxL := 11) (ret := none) (by decide) rfl ?_
  intro p e s m args below meth c s₁ B hml hv
  obtain ⟨rfl, hsz, hP, hK, hN, hD0⟩ := hv
  have C : CX p s m _ meth c cX3_seekGoal 11 wsX3_seekGoal RX3 none := ⟨B.exec, B.bytes, hml, findClass_of_methodNamed B.named, atoms_spec (ws := wsX3_seekGoal) B.pre, B.returns, B.notSynchronized⟩
  obtain ⟨hx, hb, -, hown, hts, hr, hlocks⟩ := id C
  subst hsz
  have hD := hD0.self (sz := s.heap.size)
  generalize hAe : va_A [(h0, .inr (3, [.ref h1, .ref r_gains, .int s_men, .int s_goal, .int s_goalMen])), (h1, .inl (cI, 620, .inl s_fewest)), (h2, .inr (5, [.ref r1_kinds, .ref r1_passers, .ref r1_beasts, .ref h3, .ref r1_looks, .int s1_high, .int s1_low])), (h3, .inr (7, [.int (5 : Int32), .int (3 : Int32), .ref h4, .int s1_checks_size])), (h4, .inl (cI, 15, .inl s1_checks_cells))] s.heap.size = A at hD ⊢
  have hA : ∀ q : Nat, s.heap.size ≤ q → A q := fun q h => by rw [← hAe]; exact Or.inr h
  have hS : va_S A s.heap s.heap [] := va_S.rf
  have hl := lv_entry ([.ref h0, .ref h2, .int a2, .int a3]) (n := 11) (Nat.le_of_ble_eq_true rfl)
  rw [lg_entry_eq]
  generalize (lg_sl ([.ref h0, .ref h2, .int a2, .int a3]) ++ List.replicate (11 - (lg_sl ([.ref h0, .ref h2, .int a2, .int a3])).length) Slot.unset).toArray = ls at hl ⊢
  have hl : lv_has ls 11 [(0, .ref h0), (1, .ref h2), (2, .int a2), (3, .int a3)] := hl
  unfold pX3_seekGoal at hf
  obtain ⟨H, hH⟩ : ∃ H, H = s.heap := ⟨_, rfl⟩
  obtain ⟨locs, hlo⟩ : ∃ L : List Loc, L = [] := ⟨_, rfl⟩
  have hS : va_S A s.heap H locs := by rw [hH, hlo]; exact hS
  rw [← hH] at hP
  have hG : W p l e ({ frames := 1, cells := 0, slots := 0, locals := 24 } : Room) s m [.ref h0, .ref h2, .int a2, .int a3].toArray below meth c H locs 0 0 (MQ below (va_Qv (fun (u : Int32 × Int32) => k u.1 u.2) (fun (u : Int32 × Int32) t => va_P (dC, dI) vwCl [(h0, .inr (3, [.ref h1, .ref r_gains, .int s_men, .int u.1, .int u.2])), (h1, .inl (cI, 620, .inl s_fewest)), (h2, .inr (5, [.ref r1_kinds, .ref r1_passers, .ref r1_beasts, .ref h3, .ref r1_looks, .int s1_high, .int s1_low])), (h3, .inr (7, [.int (5 : Int32), .int (3 : Int32), .ref h4, .int s1_checks_size])), (h4, .inl (cI, 15, .inl s1_checks_cells))] t.heap ∧ va_D A [(h0, .inr (3, [.ref h1, .ref r_gains, .int s_men, .int u.1, .int u.2])), (h1, .inl (cI, 620, .inl s_fewest)), (h2, .inr (5, [.ref r1_kinds, .ref r1_passers, .ref r1_beasts, .ref h3, .ref r1_looks, .int s1_high, .int s1_low])), (h3, .inr (7, [.int (5 : Int32), .int (3 : Int32), .ref h4, .int s1_checks_size])), (h4, .inl (cI, 15, .inl s1_checks_cells))]) A) [.ref h0, .ref h2, .int a2, .int a3].toArray s 0 0 A) (F0 m 0 ls []) := by
    clear hlo hH hD0
    refine lv_iload_n hx hb dX3_seekGoal_0 rfl (lv_at hl 3 rfl) ?_
    have hPc := hP.sub (ws' := []) [] rfl
    refine ro_calli (va_runSN (As := [.int a3]) (rest := []) ⟨hx, hb, hml, hown, hts⟩ (metX11_highOf hf) ⟨va_cnB 1 hts gX3_seekGoal_X11_highOf_n63 rfl rfl rfl (hN _ nwm_6) (hts _ mX3_seekGoal_iX11) kX11_highOf ⟨Nat.le_of_ble_eq_true rfl, Nat.le_of_ble_eq_true rfl⟩, hts _ mX3_seekGoal_sX11_highOf, trivial⟩ ⟨PW.blind, fun U hU hW => ⟨rfl, PW.go hU hW hPc hK hN⟩⟩ rfl rfl hl.1 rfl (lv_room (Nat.le_of_ble_eq_true rfl)) dX3_seekGoal_1 ⟨Nat.zero_le _, Nat.zero_le _⟩) (fun r_1 hf => ?_)
    refine lv_istore (lv' := [(4, .int r_1), (0, .ref h0), (1, .ref h2), (2, .int a2), (3, .int a3)]) hx hb dX3_seekGoal_4 hl (by decide) rfl (fun ls hl => ?_)
    refine lv_iload_n hx hb dX3_seekGoal_6 rfl (lv_at hl 4 rfl) ?_
    have hPc := hP.sub (ws' := []) [] rfl
    refine ro_calli (va_runSN (As := [.int a3]) (rest := []) ⟨hx, hb, hml, hown, hts⟩ (metX11_didOf hf) ⟨va_cnB 1 hts gX3_seekGoal_X11_didOf_n72 rfl rfl rfl (hN _ nwm_7) (hts _ mX3_seekGoal_iX11) kX11_didOf ⟨Nat.le_of_ble_eq_true rfl, Nat.le_of_ble_eq_true rfl⟩, hts _ mX3_seekGoal_sX11_didOf, trivial⟩ ⟨PW.blind, fun U hU hW => ⟨rfl, PW.go hU hW hPc hK hN⟩⟩ rfl rfl hl.1 rfl (lv_room (Nat.le_of_ble_eq_true rfl)) dX3_seekGoal_7 ⟨Nat.zero_le _, Nat.zero_le _⟩) (fun r_2 hf => ?_)
    refine lv_istore (lv' := [(5, .int r_2), (4, .int r_1), (0, .ref h0), (1, .ref h2), (2, .int a2), (3, .int a3)]) hx hb dX3_seekGoal_10 hl (by decide) rfl (fun ls hl => ?_)
    refine lv_aload_n hx hb dX3_seekGoal_12 rfl (lv_at hl 3 rfl) ?_
    refine va_getN (D := (dC, dI)) (ci := 5) (v := .ref h3) (C := RX5) (T := TX5) (N := 7) hx hb hts iX3_seekGoal_X5 hown hK hP 2 rfl rfl 3 (by decide) (va_Nw.use rfl (hN _ nwf_3)) (fun _ h9 => h9) rfl dX3_seekGoal_13 ?_
    refine lv_iload_n hx hb dX3_seekGoal_16 rfl (lv_at hl 4 rfl) ?_
    refine lv_iconst (v := (2 : Int32)) hx hb dX3_seekGoal_17 (by decide) ?_
    have hPc := hP.sub (ws' := [(h3, .inr (7, [.int (5 : Int32), .int (3 : Int32), .ref h4, .int s1_checks_size])), (h4, .inl (cI, 15, .inl s1_checks_cells))]) [3, 4] rfl
    refine ro_calli (va_runV (As := [.int a2, .int (2 : Int32)]) (rest := []) ⟨hx, hb, hml, hown, hts⟩ (metX7_at hf) (cwV 2 hts gX3_seekGoal_X7_at rfl rfl rfl ⟨rfl, kX7_at⟩ ⟨Nat.le_of_ble_eq_true rfl, Nat.le_of_ble_eq_true rfl⟩) ⟨PW.blind, va_recv hK hPc (ci := 7) (q0 := 0) rfl rfl, fun U hU hW => ⟨rfl, PW.go hU hW hPc hK hN⟩⟩ rfl rfl hl.1 rfl (lv_room (Nat.le_of_ble_eq_true rfl)) dX3_seekGoal_18 ⟨Nat.zero_le _, Nat.zero_le _⟩) (fun r_3 hf => ?_)
    refine lv_istore (lv' := [(6, .int r_3), (5, .int r_2), (4, .int r_1), (0, .ref h0), (1, .ref h2), (2, .int a2), (3, .int a3)]) hx hb dX3_seekGoal_21 hl (by decide) rfl (fun ls hl => ?_)
    refine lv_iload_n hx hb dX3_seekGoal_23 rfl (lv_at hl 5 rfl) ?_
    refine lv_iconst (v := (1 : Int32)) hx hb dX3_seekGoal_24 (by decide) ?_
    refine lv_iadd hx hb dX3_seekGoal_25 ?_
    refine lv_aload_n hx hb dX3_seekGoal_26 rfl (lv_at hl 4 rfl) ?_
    refine va_getN (D := (dC, dI)) (ci := 5) (v := .ref h3) (C := RX5) (T := TX5) (N := 7) hx hb hts iX3_seekGoal_X5 hown hK hP 2 rfl rfl 3 (by decide) (va_Nw.use rfl (hN _ nwf_3)) (fun _ h9 => h9) rfl dX3_seekGoal_27 ?_
    have hPc := hP.sub (ws' := [(h3, .inr (7, [.int (5 : Int32), .int (3 : Int32), .ref h4, .int s1_checks_size]))]) [3] rfl
    refine ro_calli (va_runV (As := []) (rest := [.int (a2 + (1 : Int32))]) ⟨hx, hb, hml, hown, hts⟩ (metX7_size hf) (cwV 0 hts gX3_seekGoal_X7_size rfl rfl rfl ⟨rfl, kX7_size⟩ ⟨Nat.le_of_ble_eq_true rfl, Nat.le_of_ble_eq_true rfl⟩) ⟨PW.blind, va_recv hK hPc (ci := 7) (q0 := 0) rfl rfl, fun U hU hW => ⟨rfl, PW.go hU hW hPc hK hN⟩⟩ rfl rfl hl.1 rfl (lv_room (Nat.le_of_ble_eq_true rfl)) dX3_seekGoal_30 ⟨Nat.zero_le _, Nat.zero_le _⟩) (fun r_4 hf => ?_)
    refine lv_icmp_lt (tgt := 40) hx hb dX3_seekGoal_33 (by decide) (fun c_5 => ?_) (fun c_5 => ?_)
    · replace hf := hf.1 c_5
      refine lv_iconst (v := (0 : Int32)) hx hb dX3_seekGoal_40 (by decide) ?_
      exact wX3_seekGoal_41 C hK hN hA a2 r_1 r_2 r_3 (0 : Int32) s_goal s_goalMen H locs ls hP hD hS (lv_sub hl [3, 4, 5, 2, 1, 0] rfl) hf
    · replace hf := hf.2 c_5
      refine lv_iconst (v := (1 : Int32)) hx hb dX3_seekGoal_36 (by decide) ?_
      refine lv_goto (tgt := 41) hx hb dX3_seekGoal_37 (by decide) ?_
      exact wX3_seekGoal_41 C hK hN hA a2 r_1 r_2 r_3 (1 : Int32) s_goal s_goalMen H locs ls hP hD hS (lv_sub hl [3, 4, 5, 2, 1, 0] rfl) hf
  rw [hH, hlo] at hG
  exact hG
set_option maxHeartbeats 4000000 in
set_option maxRecDepth 100000 in
theorem metX3_keep {h0 r_gains h1 : Nat} {s_men s_goal s_goalMen : Int32} {s_fewest : Nat → Int32} {a1 : Int32} {a2 : Int32} {a3 : Int32} {sz : Nat} {k : (Nat → Int32) → Prop} (hf : pX3_keep s_fewest a1 a2 a3 k) : Met l yX3_keep wsX3_keep ({ frames := 0, cells := 0, slots := 0, locals := 0 } : Room) (va_Pc [.ref h0, .int a1, .int a2, .int a3] (PR dC dI (TYS cI cL cB cZ cT cR) [(h0, .inr (3, [.ref h1, .ref r_gains, .int s_men, .int s_goal, .int s_goalMen])), (h1, .inl (cI, 620, .inl s_fewest))] sz)) (va_Qv (fun (u : (Nat → Int32)) => k u) (fun (u : (Nat → Int32)) t => va_P (dC, dI) vwCl [(h0, .inr (3, [.ref h1, .ref r_gains, .int s_men, .int s_goal, .int s_goalMen])), (h1, .inl (cI, 620, .inl u))] t.heap ∧ va_D (va_A [(h0, .inr (3, [.ref h1, .ref r_gains, .int s_men, .int s_goal, .int s_goalMen])), (h1, .inl (cI, 620, .inl s_fewest))] sz) [(h0, .inr (3, [.ref h1, .ref r_gains, .int s_men, .int s_goal, .int s_goalMen])), (h1, .inl (cI, 620, .inl u))]) (va_A [(h0, .inr (3, [.ref h1, .ref r_gains, .int s_men, .int s_goal, .int s_goalMen])), (h1, .inl (cI, 620, .inl s_fewest))] sz)) 0 0 (va_A [(h0, .inr (3, [.ref h1, .ref r_gains, .int s_men, .int s_goal, .int s_goalMen])), (h1, .inl (cI, 620, .inl s_fewest))] sz) := by
  refine Met.ofW (cc := cX3_keep) (maxL := 5) (ret := none) (by decide) rfl ?_
  intro p e s m args below meth c s₁ B hml hv
  obtain ⟨rfl, hsz, hP, hK, hN, hD0⟩ := hv
  have C : CX p s m _ meth c cX3_keep 5 wsX3_keep RX3 none := ⟨B.exec, B.bytes, hml, findClass_of_methodNamed B.named, atoms_spec (ws := wsX3_keep) B.pre, B.returns, B.notSynchronized⟩
  obtain ⟨hx, hb, -, hown, hts, hr, hlocks⟩ := id C
  subst hsz
  have hD := hD0.self (sz := s.heap.size)
  generalize hAe : va_A [(h0, .inr (3, [.ref h1, .ref r_gains, .int s_men, .int s_goal, .int s_goalMen])), (h1, .inl (cI, 620, .inl s_fewest))] s.heap.size = A at hD ⊢
  have hA : ∀ q : Nat, s.heap.size ≤ q → A q := fun q h => by rw [← hAe]; exact Or.inr h
  have hS : va_S A s.heap s.heap [] := va_S.rf
  have hl := lv_entry ([.ref h0, .int a1, .int a2, .int a3]) (n := 5) (Nat.le_of_ble_eq_true rfl)
  rw [lg_entry_eq]
  generalize (lg_sl ([.ref h0, .int a1, .int a2, .int a3]) ++ List.replicate (5 - (lg_sl ([.ref h0, .int a1, .int a2, .int a3])).length) Slot.unset).toArray = ls at hl ⊢
  have hl : lv_has ls 5 [(0, .ref h0), (1, .int a1), (2, .int a2), (3, .int a3)] := hl
  unfold pX3_keep at hf
  obtain ⟨H, hH⟩ : ∃ H, H = s.heap := ⟨_, rfl⟩
  obtain ⟨locs, hlo⟩ : ∃ L : List Loc, L = [] := ⟨_, rfl⟩
  have hS : va_S A s.heap H locs := by rw [hH, hlo]; exact hS
  rw [← hH] at hP
  have hG : W p l e ({ frames := 0, cells := 0, slots := 0, locals := 0 } : Room) s m [.ref h0, .int a1, .int a2, .int a3].toArray below meth c H locs 0 0 (MQ below (va_Qv (fun (u : (Nat → Int32)) => k u) (fun (u : (Nat → Int32)) t => va_P (dC, dI) vwCl [(h0, .inr (3, [.ref h1, .ref r_gains, .int s_men, .int s_goal, .int s_goalMen])), (h1, .inl (cI, 620, .inl u))] t.heap ∧ va_D A [(h0, .inr (3, [.ref h1, .ref r_gains, .int s_men, .int s_goal, .int s_goalMen])), (h1, .inl (cI, 620, .inl u))]) A) [.ref h0, .int a1, .int a2, .int a3].toArray s 0 0 A) (F0 m 0 ls []) := by
    clear hlo hH hD0
    refine lv_iload_n hx hb dX3_keep_0 rfl (lv_at hl 1 rfl) ?_
    refine lv_bipush (v := (124 : Int32)) hx hb dX3_keep_1 (by decide) ?_
    refine lv_imul hx hb dX3_keep_3 ?_
    refine lv_iload_n hx hb dX3_keep_4 rfl (lv_at hl 2 rfl) ?_
    refine lv_iadd hx hb dX3_keep_5 ?_
    refine lv_istore (lv' := [(4, .int ((a1 * (124 : Int32)) + a2)), (0, .ref h0), (1, .int a1), (2, .int a2), (3, .int a3)]) hx hb dX3_keep_6 hl (by decide) rfl (fun ls hl => ?_)
    refine lv_iload hx hb dX3_keep_8 (lv_at hl 0 rfl) ?_
    refine lv_if_lt (tgt := 31) hx hb dX3_keep_10 (by decide) (fun c_1 => ?_) (fun c_1 => ?_)
    · replace hf := hf.1 c_1
      exact W.vret hx hb hr (fun t ht hW => ⟨⟨(s_fewest), rfl, hf, by rw [ht]; exact hP, hD⟩, hS.F ht⟩) hS.2.2 dX3_keep_31
    · replace hf := hf.2 c_1
      refine lv_iload hx hb dX3_keep_13 (lv_at hl 0 rfl) ?_
      refine lv_aload_n hx hb dX3_keep_15 rfl (lv_at hl 1 rfl) ?_
      refine va_get (D := (dC, dI)) (ci := 3) (v := .ref h1) (C := RX3) (T := TX3) (N := 5) hx hb hts iX3_keep_X3 hown hK hP 0 rfl rfl 0 (by decide) (hts _ mX3_keep_f9) (fun _ h9 => h9) rfl dX3_keep_16 ?_
      refine va_alen (v := (620 : Int32)) hx hb hK hP 1 0 rfl rfl rfl dX3_keep_19 ?_
      refine lv_icmp_ge (tgt := 31) hx hb dX3_keep_20 (by decide) (fun c_2 => ?_) (fun c_2 => ?_)
      · replace hf := hf.1 c_2
        exact W.vret hx hb hr (fun t ht hW => ⟨⟨(s_fewest), rfl, hf, by rw [ht]; exact hP, hD⟩, hS.F ht⟩) hS.2.2 dX3_keep_31
      · replace hf := hf.2 c_2
        refine lv_aload_n hx hb dX3_keep_23 rfl (lv_at hl 1 rfl) ?_
        refine va_get (D := (dC, dI)) (ci := 3) (v := .ref h1) (C := RX3) (T := TX3) (N := 5) hx hb hts iX3_keep_X3 hown hK hP 0 rfl rfl 0 (by decide) (hts _ mX3_keep_f9) (fun _ h9 => h9) rfl dX3_keep_24 ?_
        refine lv_iload hx hb dX3_keep_27 (lv_at hl 0 rfl) ?_
        refine lv_iload_n hx hb dX3_keep_29 rfl (lv_at hl 4 rfl) ?_
        obtain ⟨h_3, hf⟩ := hf
        refine va_iast hx hb hK hP hD hS 1 0 rfl rfl h_3 dX3_keep_30 (fun H locs hP hD hS => ?_)
        replace hP : va_P (dC, dI) vwCl [(h0, .inr (3, [.ref h1, .ref r_gains, .int s_men, .int s_goal, .int s_goalMen])), (h1, .inl (cI, 620, .inl (upd s_fewest ((a1 * (124 : Int32)) + a2).toNatClampNeg a3)))] H := hP
        replace hD : va_D A [(h0, .inr (3, [.ref h1, .ref r_gains, .int s_men, .int s_goal, .int s_goalMen])), (h1, .inl (cI, 620, .inl (upd s_fewest ((a1 * (124 : Int32)) + a2).toNatClampNeg a3)))] := hD
        exact W.vret hx hb hr (fun t ht hW => ⟨⟨((upd s_fewest ((a1 * (124 : Int32)) + a2).toNatClampNeg a3)), rfl, hf, by rw [ht]; exact hP, hD⟩, hS.F ht⟩) hS.2.2 dX3_keep_31
  rw [hH, hlo] at hG
  exact hG
set_option maxHeartbeats 4000000 in
set_option maxRecDepth 100000 in
theorem wX3_weigh_65 {p : Program} {e : Env} {s : State} {m : MethodId} {args : Array Value} {below : List Frame} {meth : Method} {c : Code} (C : CX p s m args meth c cX3_weigh 8 wsX3_weigh RX3 none) (hK : va_K (dC, dI) vwCl (TYS cI cL cB cZ cT cR) s) (hN : NW s) {A : Nat → Prop} (hA : ∀ q : Nat, s.heap.size ≤ q → A q) {h0 r_gains h1 h2 r1_beasts r1_looks h3 h4 h5 h6 h7 h8 h9 h10 h11 h12 h13 : Nat} {s_men s1_high s1_low s1_passers_size s1_checks_size : Int32} {s1_passers_cells s1_checks_cells : Nat → Int32} {k : Int32 → Int32 → (Nat → Int32) → Prop} {kx : Int32 → Int32 → Int32 → (Nat → Int32) → Prop} (hkx : ∀ (x2 : Int32) (s_goal : Int32) (s_goalMen : Int32) (s_fewest : Nat → Int32) (H : Heap) (locs : List Loc) (ls : Array Slot), va_P (dC, dI) vwCl [(h0, .inr (3, [.ref h1, .ref r_gains, .int s_men, .int s_goal, .int s_goalMen])), (h1, .inl (cI, 620, .inl s_fewest)), (h2, .inr (5, [.ref h3, .ref h10, .ref r1_beasts, .ref h12, .ref r1_looks, .int s1_high, .int s1_low])), (h3, .inl (cT, 6, .inr (.inr (.inr (.inr (kd h4 h5 h6 h7 h8 h9)))))), (h4, .inr (9, [])), (h5, .inr (4, [])), (h6, .inr (10, [])), (h7, .inr (2, [])), (h8, .inr (1, [])), (h9, .inr (0, [])), (h10, .inr (7, [.int (12 : Int32), .int (6 : Int32), .ref h11, .int s1_passers_size])), (h11, .inl (cI, 72, .inl s1_passers_cells)), (h12, .inr (7, [.int (5 : Int32), .int (3 : Int32), .ref h13, .int s1_checks_size])), (h13, .inl (cI, 15, .inl s1_checks_cells))] H → va_D A [(h0, .inr (3, [.ref h1, .ref r_gains, .int s_men, .int s_goal, .int s_goalMen])), (h1, .inl (cI, 620, .inl s_fewest)), (h2, .inr (5, [.ref h3, .ref h10, .ref r1_beasts, .ref h12, .ref r1_looks, .int s1_high, .int s1_low])), (h3, .inl (cT, 6, .inr (.inr (.inr (.inr (kd h4 h5 h6 h7 h8 h9)))))), (h4, .inr (9, [])), (h5, .inr (4, [])), (h6, .inr (10, [])), (h7, .inr (2, [])), (h8, .inr (1, [])), (h9, .inr (0, [])), (h10, .inr (7, [.int (12 : Int32), .int (6 : Int32), .ref h11, .int s1_passers_size])), (h11, .inl (cI, 72, .inl s1_passers_cells)), (h12, .inr (7, [.int (5 : Int32), .int (3 : Int32), .ref h13, .int s1_checks_size])), (h13, .inl (cI, 15, .inl s1_checks_cells))] → va_S A s.heap H locs → lv_has ls 8 [(0, .ref h0), (1, .ref h2), (2, .int x2)] → kx x2 s_goal s_goalMen s_fewest → W p l e ({ frames := 5, cells := 0, slots := 0, locals := 123 } : Room) s m args below meth c H locs 0 0 (MQ below (va_Qv (fun (u : Int32 × Int32 × (Nat → Int32)) => k u.1 u.2.1 u.2.2) (fun (u : Int32 × Int32 × (Nat → Int32)) t => va_P (dC, dI) vwCl [(h0, .inr (3, [.ref h1, .ref r_gains, .int s_men, .int u.1, .int u.2.1])), (h1, .inl (cI, 620, .inl u.2.2)), (h2, .inr (5, [.ref h3, .ref h10, .ref r1_beasts, .ref h12, .ref r1_looks, .int s1_high, .int s1_low])), (h3, .inl (cT, 6, .inr (.inr (.inr (.inr (kd h4 h5 h6 h7 h8 h9)))))), (h4, .inr (9, [])), (h5, .inr (4, [])), (h6, .inr (10, [])), (h7, .inr (2, [])), (h8, .inr (1, [])), (h9, .inr (0, [])), (h10, .inr (7, [.int (12 : Int32), .int (6 : Int32), .ref h11, .int s1_passers_size])), (h11, .inl (cI, 72, .inl s1_passers_cells)), (h12, .inr (7, [.int (5 : Int32), .int (3 : Int32), .ref h13, .int s1_checks_size])), (h13, .inl (cI, 15, .inl s1_checks_cells))] t.heap ∧ va_D A [(h0, .inr (3, [.ref h1, .ref r_gains, .int s_men, .int u.1, .int u.2.1])), (h1, .inl (cI, 620, .inl u.2.2)), (h2, .inr (5, [.ref h3, .ref h10, .ref r1_beasts, .ref h12, .ref r1_looks, .int s1_high, .int s1_low])), (h3, .inl (cT, 6, .inr (.inr (.inr (.inr (kd h4 h5 h6 h7 h8 h9)))))), (h4, .inr (9, [])), (h5, .inr (4, [])), (h6, .inr (10, [])), (h7, .inr (2, [])), (h8, .inr (1, [])), (h9, .inr (0, [])), (h10, .inr (7, [.int (12 : Int32), .int (6 : Int32), .ref h11, .int s1_passers_size])), (h11, .inl (cI, 72, .inl s1_passers_cells)), (h12, .inr (7, [.int (5 : Int32), .int (3 : Int32), .ref h13, .int s1_checks_size])), (h13, .inl (cI, 15, .inl s1_checks_cells))]) A) args s 0 0 A) (F0 m 104 ls [])) : ∀ (n65 : Nat), ∀ (x2 : Int32) (x3 : Int32) (x4 : Int32) (x6 : Int32) (x7 : Int32) (s_goal : Int32) (s_goalMen : Int32) (s_fewest : Nat → Int32) (H : Heap) (locs : List Loc) (ls : Array Slot), va_P (dC, dI) vwCl [(h0, .inr (3, [.ref h1, .ref r_gains, .int s_men, .int s_goal, .int s_goalMen])), (h1, .inl (cI, 620, .inl s_fewest)), (h2, .inr (5, [.ref h3, .ref h10, .ref r1_beasts, .ref h12, .ref r1_looks, .int s1_high, .int s1_low])), (h3, .inl (cT, 6, .inr (.inr (.inr (.inr (kd h4 h5 h6 h7 h8 h9)))))), (h4, .inr (9, [])), (h5, .inr (4, [])), (h6, .inr (10, [])), (h7, .inr (2, [])), (h8, .inr (1, [])), (h9, .inr (0, [])), (h10, .inr (7, [.int (12 : Int32), .int (6 : Int32), .ref h11, .int s1_passers_size])), (h11, .inl (cI, 72, .inl s1_passers_cells)), (h12, .inr (7, [.int (5 : Int32), .int (3 : Int32), .ref h13, .int s1_checks_size])), (h13, .inl (cI, 15, .inl s1_checks_cells))] H → va_D A [(h0, .inr (3, [.ref h1, .ref r_gains, .int s_men, .int s_goal, .int s_goalMen])), (h1, .inl (cI, 620, .inl s_fewest)), (h2, .inr (5, [.ref h3, .ref h10, .ref r1_beasts, .ref h12, .ref r1_looks, .int s1_high, .int s1_low])), (h3, .inl (cT, 6, .inr (.inr (.inr (.inr (kd h4 h5 h6 h7 h8 h9)))))), (h4, .inr (9, [])), (h5, .inr (4, [])), (h6, .inr (10, [])), (h7, .inr (2, [])), (h8, .inr (1, [])), (h9, .inr (0, [])), (h10, .inr (7, [.int (12 : Int32), .int (6 : Int32), .ref h11, .int s1_passers_size])), (h11, .inl (cI, 72, .inl s1_passers_cells)), (h12, .inr (7, [.int (5 : Int32), .int (3 : Int32), .ref h13, .int s1_checks_size])), (h13, .inl (cI, 15, .inl s1_checks_cells))] → va_S A s.heap H locs → lv_has ls 8 [(0, .ref h0), (1, .ref h2), (2, .int x2), (3, .int x3), (4, .int x4), (6, .int x6), (7, .int x7)] → pX3_weigh_65 s1_passers_cells s1_checks_size s1_checks_cells kx n65 x2 x3 x4 x6 x7 s_goal s_goalMen s_fewest → W p l e ({ frames := 5, cells := 0, slots := 0, locals := 123 } : Room) s m args below meth c H locs 0 0 (MQ below (va_Qv (fun (u : Int32 × Int32 × (Nat → Int32)) => k u.1 u.2.1 u.2.2) (fun (u : Int32 × Int32 × (Nat → Int32)) t => va_P (dC, dI) vwCl [(h0, .inr (3, [.ref h1, .ref r_gains, .int s_men, .int u.1, .int u.2.1])), (h1, .inl (cI, 620, .inl u.2.2)), (h2, .inr (5, [.ref h3, .ref h10, .ref r1_beasts, .ref h12, .ref r1_looks, .int s1_high, .int s1_low])), (h3, .inl (cT, 6, .inr (.inr (.inr (.inr (kd h4 h5 h6 h7 h8 h9)))))), (h4, .inr (9, [])), (h5, .inr (4, [])), (h6, .inr (10, [])), (h7, .inr (2, [])), (h8, .inr (1, [])), (h9, .inr (0, [])), (h10, .inr (7, [.int (12 : Int32), .int (6 : Int32), .ref h11, .int s1_passers_size])), (h11, .inl (cI, 72, .inl s1_passers_cells)), (h12, .inr (7, [.int (5 : Int32), .int (3 : Int32), .ref h13, .int s1_checks_size])), (h13, .inl (cI, 15, .inl s1_checks_cells))] t.heap ∧ va_D A [(h0, .inr (3, [.ref h1, .ref r_gains, .int s_men, .int u.1, .int u.2.1])), (h1, .inl (cI, 620, .inl u.2.2)), (h2, .inr (5, [.ref h3, .ref h10, .ref r1_beasts, .ref h12, .ref r1_looks, .int s1_high, .int s1_low])), (h3, .inl (cT, 6, .inr (.inr (.inr (.inr (kd h4 h5 h6 h7 h8 h9)))))), (h4, .inr (9, [])), (h5, .inr (4, [])), (h6, .inr (10, [])), (h7, .inr (2, [])), (h8, .inr (1, [])), (h9, .inr (0, [])), (h10, .inr (7, [.int (12 : Int32), .int (6 : Int32), .ref h11, .int s1_passers_size])), (h11, .inl (cI, 72, .inl s1_passers_cells)), (h12, .inr (7, [.int (5 : Int32), .int (3 : Int32), .ref h13, .int s1_checks_size])), (h13, .inl (cI, 15, .inl s1_checks_cells))]) A) args s 0 0 A) (F0 m 65 ls []) := by
  obtain ⟨hx, hb, hml, hown, hts, hr, hlocks⟩ := id C
  intro n65
  induction n65 with
  | zero =>
    intro x2 x3 x4 x6 x7 s_goal s_goalMen s_fewest H locs ls hP hD hS hl hf
    rw [pX3_weigh_65] at hf
    exact hf.elim
  | succ n65 ih =>
    intro x2 x3 x4 x6 x7 s_goal s_goalMen s_fewest H locs ls hP hD hS hl hf
    rw [pX3_weigh_65] at hf
    refine lv_iload hx hb dX3_weigh_65 (lv_at hl 6 rfl) ?_
    refine lv_iload hx hb dX3_weigh_67 (lv_at hl 5 rfl) ?_
    refine lv_icmp_ge (tgt := 104) hx hb dX3_weigh_69 (by decide) (fun c_7 => ?_) (fun c_7 => ?_)
    · replace hf := hf.1 c_7
      exact hkx x2 s_goal s_goalMen s_fewest H locs ls hP hD hS (lv_sub hl [0, 1, 2] rfl) hf
    · replace hf := hf.2 c_7
      refine lv_aload_n hx hb dX3_weigh_72 rfl (lv_at hl 0 rfl) ?_
      refine lv_aload_n hx hb dX3_weigh_73 rfl (lv_at hl 1 rfl) ?_
      refine lv_iload_n hx hb dX3_weigh_74 rfl (lv_at hl 2 rfl) ?_
      refine lv_aload_n hx hb dX3_weigh_75 rfl (lv_at hl 1 rfl) ?_
      refine lv_iload_n hx hb dX3_weigh_76 rfl (lv_at hl 3 rfl) ?_
      refine lv_iload hx hb dX3_weigh_77 (lv_at hl 4 rfl) ?_
      refine lv_iload hx hb dX3_weigh_79 (lv_at hl 6 rfl) ?_
      have hPc := hP.sub (ws' := [(h2, .inr (5, [.ref h3, .ref h10, .ref r1_beasts, .ref h12, .ref r1_looks, .int s1_high, .int s1_low])), (h3, .inl (cT, 6, .inr (.inr (.inr (.inr (kd h4 h5 h6 h7 h8 h9)))))), (h4, .inr (9, [])), (h5, .inr (4, [])), (h6, .inr (10, [])), (h7, .inr (2, [])), (h8, .inr (1, [])), (h9, .inr (0, [])), (h10, .inr (7, [.int (12 : Int32), .int (6 : Int32), .ref h11, .int s1_passers_size])), (h11, .inl (cI, 72, .inl s1_passers_cells))]) [2, 3, 4, 5, 6, 7, 8, 9, 10, 11] rfl
      refine ro_calli (va_runV (As := [.int x3, .int x4, .int x7]) (rest := [.int x2, .ref h2, .ref h0]) ⟨hx, hb, hml, hown, hts⟩ (metX5_walk hf) (cwV 3 hts gX3_weigh_X5_walk rfl rfl rfl ⟨rfl, kX5_walk⟩ ⟨Nat.le_of_ble_eq_true rfl, Nat.le_of_ble_eq_true rfl⟩) ⟨PW.blind, va_recv hK hPc (ci := 5) (q0 := 0) rfl rfl, fun U hU hW => ⟨rfl, PW.go hU hW hPc hK hN⟩⟩ rfl rfl hl.1 rfl (lv_room (Nat.le_of_ble_eq_true rfl)) dX3_weigh_81 ⟨Nat.zero_le _, Nat.zero_le _⟩) (fun r_8 hf => ?_)
      have hPc := hP.sub (ws' := [(h0, .inr (3, [.ref h1, .ref r_gains, .int s_men, .int s_goal, .int s_goalMen])), (h1, .inl (cI, 620, .inl s_fewest)), (h2, .inr (5, [.ref h3, .ref h10, .ref r1_beasts, .ref h12, .ref r1_looks, .int s1_high, .int s1_low])), (h12, .inr (7, [.int (5 : Int32), .int (3 : Int32), .ref h13, .int s1_checks_size])), (h13, .inl (cI, 15, .inl s1_checks_cells))]) [0, 1, 2, 12, 13] rfl
      have hDc := hD.sub (ws' := [(h0, .inr (3, [.ref h1, .ref r_gains, .int s_men, .int s_goal, .int s_goalMen])), (h1, .inl (cI, 620, .inl s_fewest)), (h2, .inr (5, [.ref h3, .ref h10, .ref r1_beasts, .ref h12, .ref r1_looks, .int s1_high, .int s1_low])), (h12, .inr (7, [.int (5 : Int32), .int (3 : Int32), .ref h13, .int s1_checks_size])), (h13, .inl (cI, 15, .inl s1_checks_cells))]) [0, 1, 2, 12, 13] (by decide) rfl
      have hFc := va_free (wc := [(h0, .inr (3, [.ref h1, .ref r_gains, .int s_men, .int s_goal, .int s_goalMen])), (h1, .inl (cI, 620, .inl s_fewest)), (h2, .inr (5, [.ref h3, .ref h10, .ref r1_beasts, .ref h12, .ref r1_looks, .int s1_high, .int s1_low])), (h12, .inr (7, [.int (5 : Int32), .int (3 : Int32), .ref h13, .int s1_checks_size])), (h13, .inl (cI, 15, .inl s1_checks_cells))]) hD hS hA [0, 1, 2, 12, 13] rfl
      refine va_callv (va_runV (As := [.ref h2, .int x2, .int r_8]) (rest := []) ⟨hx, hb, hml, hown, hts⟩ (metX3_seekGoal (sz := H.size) hf) (cwV 3 hts gX3_weigh_X3_seekGoal rfl rfl rfl ⟨rfl, kX3_seekGoal⟩ ⟨Nat.le_of_ble_eq_true rfl, Nat.le_of_ble_eq_true rfl⟩) ⟨PR.blind, va_recv hK hPc (ci := 3) (q0 := 0) rfl rfl, fun U hU hW => ⟨rfl, PR.go hU hW hPc hDc hK hN⟩⟩ rfl rfl hl.1 rfl (lv_room (Nat.le_of_ble_eq_true rfl)) dX3_weigh_84 ⟨Nat.zero_le _, Nat.zero_le _⟩) hS (fun q _ h => hFc q h) hFc (fun u t H1 locs ht hvm hf hB hz1 hk1 hS => ?_)
      obtain ⟨s_goal_9, s_goalMen_9⟩ := u
      have hP1 : va_P (dC, dI) vwCl [(h0, .inr (3, [.ref h1, .ref r_gains, .int s_men, .int s_goal_9, .int s_goalMen_9])), (h1, .inl (cI, 620, .inl s_fewest)), (h2, .inr (5, [.ref h3, .ref h10, .ref r1_beasts, .ref h12, .ref r1_looks, .int s1_high, .int s1_low])), (h12, .inr (7, [.int (5 : Int32), .int (3 : Int32), .ref h13, .int s1_checks_size])), (h13, .inl (cI, 15, .inl s1_checks_cells))] H1 := by rw [← ht]; exact hB.1
      have hD1 : va_D (va_A [(h0, .inr (3, [.ref h1, .ref r_gains, .int s_men, .int s_goal, .int s_goalMen])), (h1, .inl (cI, 620, .inl s_fewest)), (h2, .inr (5, [.ref h3, .ref h10, .ref r1_beasts, .ref h12, .ref r1_looks, .int s1_high, .int s1_low])), (h12, .inr (7, [.int (5 : Int32), .int (3 : Int32), .ref h13, .int s1_checks_size])), (h13, .inl (cI, 15, .inl s1_checks_cells))] H.size) [(h0, .inr (3, [.ref h1, .ref r_gains, .int s_men, .int s_goal_9, .int s_goalMen_9])), (h1, .inl (cI, 620, .inl s_fewest)), (h2, .inr (5, [.ref h3, .ref h10, .ref r1_beasts, .ref h12, .ref r1_looks, .int s1_high, .int s1_low])), (h12, .inr (7, [.int (5 : Int32), .int (3 : Int32), .ref h13, .int s1_checks_size])), (h13, .inl (cI, 15, .inl s1_checks_cells))] := hB.2
      obtain ⟨hP, hD⟩ := jn (wr := [(h3, .inl (cT, 6, .inr (.inr (.inr (.inr (kd h4 h5 h6 h7 h8 h9)))))), (h4, .inr (9, [])), (h5, .inr (4, [])), (h6, .inr (10, [])), (h7, .inr (2, [])), (h8, .inr (1, [])), (h9, .inr (0, [])), (h10, .inr (7, [.int (12 : Int32), .int (6 : Int32), .ref h11, .int s1_passers_size])), (h11, .inl (cI, 72, .inl s1_passers_cells))]) (ws' := [(h0, .inr (3, [.ref h1, .ref r_gains, .int s_men, .int s_goal_9, .int s_goalMen_9])), (h1, .inl (cI, 620, .inl s_fewest)), (h2, .inr (5, [.ref h3, .ref h10, .ref r1_beasts, .ref h12, .ref r1_looks, .int s1_high, .int s1_low])), (h3, .inl (cT, 6, .inr (.inr (.inr (.inr (kd h4 h5 h6 h7 h8 h9)))))), (h4, .inr (9, [])), (h5, .inr (4, [])), (h6, .inr (10, [])), (h7, .inr (2, [])), (h8, .inr (1, [])), (h9, .inr (0, [])), (h10, .inr (7, [.int (12 : Int32), .int (6 : Int32), .ref h11, .int s1_passers_size])), (h11, .inl (cI, 72, .inl s1_passers_cells)), (h12, .inr (7, [.int (5 : Int32), .int (3 : Int32), .ref h13, .int s1_checks_size])), (h13, .inl (cI, 15, .inl s1_checks_cells))]) hP hD [0, 1, 2, 12, 13] [3, 4, 5, 6, 7, 8, 9, 10, 11] rfl rfl (by decide) (by decide) hk1 hFc hP1 hD1 [9, 10, 11, 0, 1, 2, 3, 4, 5, 6, 7, 8, 12, 13] (by decide) rfl
      clear hP1 hD1 hB hk1 hz1 hvm ht hPc hDc hFc
      generalize H1 = H at hP hS ⊢
      try dsimp only at hf
      refine lv_aload_n hx hb dX3_weigh_87 rfl (lv_at hl 0 rfl) ?_
      refine lv_iload_n hx hb dX3_weigh_88 rfl (lv_at hl 2 rfl) ?_
      refine lv_iload hx hb dX3_weigh_89 (lv_at hl 6 rfl) ?_
      refine lv_aload_n hx hb dX3_weigh_91 rfl (lv_at hl 0 rfl) ?_
      refine va_get (D := (dC, dI)) (ci := 3) (v := .int s_goalMen_9) (C := RX3) (T := TX3) (N := 5) hx hb hts iX3_weigh_X3 hown hK hP 0 rfl rfl 4 (by decide) (hts _ mX3_weigh_f25) (fun _ h9 => h9) rfl dX3_weigh_92 ?_
      have hPc := hP.sub (ws' := [(h0, .inr (3, [.ref h1, .ref r_gains, .int s_men, .int s_goal_9, .int s_goalMen_9])), (h1, .inl (cI, 620, .inl s_fewest))]) [0, 1] rfl
      have hDc := hD.sub (ws' := [(h0, .inr (3, [.ref h1, .ref r_gains, .int s_men, .int s_goal_9, .int s_goalMen_9])), (h1, .inl (cI, 620, .inl s_fewest))]) [0, 1] (by decide) rfl
      have hFc := va_free (wc := [(h0, .inr (3, [.ref h1, .ref r_gains, .int s_men, .int s_goal_9, .int s_goalMen_9])), (h1, .inl (cI, 620, .inl s_fewest))]) hD hS hA [0, 1] rfl
      refine va_callv (va_runV (As := [.int x2, .int x7, .int s_goalMen_9]) (rest := []) ⟨hx, hb, hml, hown, hts⟩ (metX3_keep (sz := H.size) hf) (cwV 3 hts gX3_weigh_X3_keep rfl rfl rfl ⟨rfl, kX3_keep⟩ ⟨Nat.le_of_ble_eq_true rfl, Nat.le_of_ble_eq_true rfl⟩) ⟨PR.blind, va_recv hK hPc (ci := 3) (q0 := 0) rfl rfl, fun U hU hW => ⟨rfl, PR.go hU hW hPc hDc hK hN⟩⟩ rfl rfl hl.1 rfl (lv_room (Nat.le_of_ble_eq_true rfl)) dX3_weigh_95 ⟨Nat.zero_le _, Nat.zero_le _⟩) hS (fun q _ h => hFc q h) hFc (fun u t H1 locs ht hvm hf hB hz1 hk1 hS => ?_)
      obtain ⟨s_fewest_10, rfl⟩ : ∃ z, z = u := ⟨_, rfl⟩
      have hP1 : va_P (dC, dI) vwCl [(h0, .inr (3, [.ref h1, .ref r_gains, .int s_men, .int s_goal_9, .int s_goalMen_9])), (h1, .inl (cI, 620, .inl s_fewest_10))] H1 := by rw [← ht]; exact hB.1
      have hD1 : va_D (va_A [(h0, .inr (3, [.ref h1, .ref r_gains, .int s_men, .int s_goal_9, .int s_goalMen_9])), (h1, .inl (cI, 620, .inl s_fewest))] H.size) [(h0, .inr (3, [.ref h1, .ref r_gains, .int s_men, .int s_goal_9, .int s_goalMen_9])), (h1, .inl (cI, 620, .inl s_fewest_10))] := hB.2
      obtain ⟨hP, hD⟩ := jn (wr := [(h2, .inr (5, [.ref h3, .ref h10, .ref r1_beasts, .ref h12, .ref r1_looks, .int s1_high, .int s1_low])), (h3, .inl (cT, 6, .inr (.inr (.inr (.inr (kd h4 h5 h6 h7 h8 h9)))))), (h4, .inr (9, [])), (h5, .inr (4, [])), (h6, .inr (10, [])), (h7, .inr (2, [])), (h8, .inr (1, [])), (h9, .inr (0, [])), (h10, .inr (7, [.int (12 : Int32), .int (6 : Int32), .ref h11, .int s1_passers_size])), (h11, .inl (cI, 72, .inl s1_passers_cells)), (h12, .inr (7, [.int (5 : Int32), .int (3 : Int32), .ref h13, .int s1_checks_size])), (h13, .inl (cI, 15, .inl s1_checks_cells))]) (ws' := [(h0, .inr (3, [.ref h1, .ref r_gains, .int s_men, .int s_goal_9, .int s_goalMen_9])), (h1, .inl (cI, 620, .inl s_fewest_10)), (h2, .inr (5, [.ref h3, .ref h10, .ref r1_beasts, .ref h12, .ref r1_looks, .int s1_high, .int s1_low])), (h3, .inl (cT, 6, .inr (.inr (.inr (.inr (kd h4 h5 h6 h7 h8 h9)))))), (h4, .inr (9, [])), (h5, .inr (4, [])), (h6, .inr (10, [])), (h7, .inr (2, [])), (h8, .inr (1, [])), (h9, .inr (0, [])), (h10, .inr (7, [.int (12 : Int32), .int (6 : Int32), .ref h11, .int s1_passers_size])), (h11, .inl (cI, 72, .inl s1_passers_cells)), (h12, .inr (7, [.int (5 : Int32), .int (3 : Int32), .ref h13, .int s1_checks_size])), (h13, .inl (cI, 15, .inl s1_checks_cells))]) hP hD [0, 1] [2, 3, 4, 5, 6, 7, 8, 9, 10, 11, 12, 13] rfl rfl (by decide) (by decide) hk1 hFc hP1 hD1 [12, 13, 0, 1, 2, 3, 4, 5, 6, 7, 8, 9, 10, 11] (by decide) rfl
      clear hP1 hD1 hB hk1 hz1 hvm ht hPc hDc hFc
      generalize H1 = H at hP hS ⊢
      try dsimp only at hf
      refine lv_iinc (v := (x7 + 1)) (lv' := [(7, .int (x7 + 1)), (0, .ref h0), (1, .ref h2), (2, .int x2), (3, .int x3), (4, .int x4), (6, .int x6)]) hx hb dX3_weigh_98 hl (k := 6) rfl (by rfl) (by decide) rfl (fun ls hl => ?_)
      refine lv_goto (tgt := 65) hx hb dX3_weigh_101 (by decide) ?_
      exact ih x2 x3 x4 x6 (x7 + 1) s_goal_9 s_goalMen_9 s_fewest_10 H locs ls hP hD hS (lv_sub hl [1, 2, 3, 4, 5, 6, 0] rfl) hf
set_option maxHeartbeats 4000000 in
set_option maxRecDepth 100000 in
theorem wX3_weigh_10 {p : Program} {e : Env} {s : State} {m : MethodId} {args : Array Value} {below : List Frame} {meth : Method} {c : Code} (C : CX p s m args meth c cX3_weigh 8 wsX3_weigh RX3 none) (hK : va_K (dC, dI) vwCl (TYS cI cL cB cZ cT cR) s) (hN : NW s) {A : Nat → Prop} (hA : ∀ q : Nat, s.heap.size ≤ q → A q) {h0 r_gains h1 h2 r1_beasts r1_looks h3 h4 h5 h6 h7 h8 h9 h10 h11 h12 h13 : Nat} {s_men s1_high s1_low s1_passers_size s1_checks_size : Int32} {s1_passers_cells s1_checks_cells : Nat → Int32} {k : Int32 → Int32 → (Nat → Int32) → Prop} {kx : Int32 → Int32 → (Nat → Int32) → Prop} (hkx : ∀ (s_goal : Int32) (s_goalMen : Int32) (s_fewest : Nat → Int32) (H : Heap) (locs : List Loc) (ls : Array Slot), va_P (dC, dI) vwCl [(h0, .inr (3, [.ref h1, .ref r_gains, .int s_men, .int s_goal, .int s_goalMen])), (h1, .inl (cI, 620, .inl s_fewest)), (h2, .inr (5, [.ref h3, .ref h10, .ref r1_beasts, .ref h12, .ref r1_looks, .int s1_high, .int s1_low])), (h3, .inl (cT, 6, .inr (.inr (.inr (.inr (kd h4 h5 h6 h7 h8 h9)))))), (h4, .inr (9, [])), (h5, .inr (4, [])), (h6, .inr (10, [])), (h7, .inr (2, [])), (h8, .inr (1, [])), (h9, .inr (0, [])), (h10, .inr (7, [.int (12 : Int32), .int (6 : Int32), .ref h11, .int s1_passers_size])), (h11, .inl (cI, 72, .inl s1_passers_cells)), (h12, .inr (7, [.int (5 : Int32), .int (3 : Int32), .ref h13, .int s1_checks_size])), (h13, .inl (cI, 15, .inl s1_checks_cells))] H → va_D A [(h0, .inr (3, [.ref h1, .ref r_gains, .int s_men, .int s_goal, .int s_goalMen])), (h1, .inl (cI, 620, .inl s_fewest)), (h2, .inr (5, [.ref h3, .ref h10, .ref r1_beasts, .ref h12, .ref r1_looks, .int s1_high, .int s1_low])), (h3, .inl (cT, 6, .inr (.inr (.inr (.inr (kd h4 h5 h6 h7 h8 h9)))))), (h4, .inr (9, [])), (h5, .inr (4, [])), (h6, .inr (10, [])), (h7, .inr (2, [])), (h8, .inr (1, [])), (h9, .inr (0, [])), (h10, .inr (7, [.int (12 : Int32), .int (6 : Int32), .ref h11, .int s1_passers_size])), (h11, .inl (cI, 72, .inl s1_passers_cells)), (h12, .inr (7, [.int (5 : Int32), .int (3 : Int32), .ref h13, .int s1_checks_size])), (h13, .inl (cI, 15, .inl s1_checks_cells))] → va_S A s.heap H locs → lv_has ls 8 [(0, .ref h0), (1, .ref h2)] → kx s_goal s_goalMen s_fewest → W p l e ({ frames := 5, cells := 0, slots := 0, locals := 123 } : Room) s m args below meth c H locs 0 0 (MQ below (va_Qv (fun (u : Int32 × Int32 × (Nat → Int32)) => k u.1 u.2.1 u.2.2) (fun (u : Int32 × Int32 × (Nat → Int32)) t => va_P (dC, dI) vwCl [(h0, .inr (3, [.ref h1, .ref r_gains, .int s_men, .int u.1, .int u.2.1])), (h1, .inl (cI, 620, .inl u.2.2)), (h2, .inr (5, [.ref h3, .ref h10, .ref r1_beasts, .ref h12, .ref r1_looks, .int s1_high, .int s1_low])), (h3, .inl (cT, 6, .inr (.inr (.inr (.inr (kd h4 h5 h6 h7 h8 h9)))))), (h4, .inr (9, [])), (h5, .inr (4, [])), (h6, .inr (10, [])), (h7, .inr (2, [])), (h8, .inr (1, [])), (h9, .inr (0, [])), (h10, .inr (7, [.int (12 : Int32), .int (6 : Int32), .ref h11, .int s1_passers_size])), (h11, .inl (cI, 72, .inl s1_passers_cells)), (h12, .inr (7, [.int (5 : Int32), .int (3 : Int32), .ref h13, .int s1_checks_size])), (h13, .inl (cI, 15, .inl s1_checks_cells))] t.heap ∧ va_D A [(h0, .inr (3, [.ref h1, .ref r_gains, .int s_men, .int u.1, .int u.2.1])), (h1, .inl (cI, 620, .inl u.2.2)), (h2, .inr (5, [.ref h3, .ref h10, .ref r1_beasts, .ref h12, .ref r1_looks, .int s1_high, .int s1_low])), (h3, .inl (cT, 6, .inr (.inr (.inr (.inr (kd h4 h5 h6 h7 h8 h9)))))), (h4, .inr (9, [])), (h5, .inr (4, [])), (h6, .inr (10, [])), (h7, .inr (2, [])), (h8, .inr (1, [])), (h9, .inr (0, [])), (h10, .inr (7, [.int (12 : Int32), .int (6 : Int32), .ref h11, .int s1_passers_size])), (h11, .inl (cI, 72, .inl s1_passers_cells)), (h12, .inr (7, [.int (5 : Int32), .int (3 : Int32), .ref h13, .int s1_checks_size])), (h13, .inl (cI, 15, .inl s1_checks_cells))]) A) args s 0 0 A) (F0 m 110 ls [])) : ∀ (n10 : Nat), ∀ (x2 : Int32) (s_goal : Int32) (s_goalMen : Int32) (s_fewest : Nat → Int32) (H : Heap) (locs : List Loc) (ls : Array Slot), va_P (dC, dI) vwCl [(h0, .inr (3, [.ref h1, .ref r_gains, .int s_men, .int s_goal, .int s_goalMen])), (h1, .inl (cI, 620, .inl s_fewest)), (h2, .inr (5, [.ref h3, .ref h10, .ref r1_beasts, .ref h12, .ref r1_looks, .int s1_high, .int s1_low])), (h3, .inl (cT, 6, .inr (.inr (.inr (.inr (kd h4 h5 h6 h7 h8 h9)))))), (h4, .inr (9, [])), (h5, .inr (4, [])), (h6, .inr (10, [])), (h7, .inr (2, [])), (h8, .inr (1, [])), (h9, .inr (0, [])), (h10, .inr (7, [.int (12 : Int32), .int (6 : Int32), .ref h11, .int s1_passers_size])), (h11, .inl (cI, 72, .inl s1_passers_cells)), (h12, .inr (7, [.int (5 : Int32), .int (3 : Int32), .ref h13, .int s1_checks_size])), (h13, .inl (cI, 15, .inl s1_checks_cells))] H → va_D A [(h0, .inr (3, [.ref h1, .ref r_gains, .int s_men, .int s_goal, .int s_goalMen])), (h1, .inl (cI, 620, .inl s_fewest)), (h2, .inr (5, [.ref h3, .ref h10, .ref r1_beasts, .ref h12, .ref r1_looks, .int s1_high, .int s1_low])), (h3, .inl (cT, 6, .inr (.inr (.inr (.inr (kd h4 h5 h6 h7 h8 h9)))))), (h4, .inr (9, [])), (h5, .inr (4, [])), (h6, .inr (10, [])), (h7, .inr (2, [])), (h8, .inr (1, [])), (h9, .inr (0, [])), (h10, .inr (7, [.int (12 : Int32), .int (6 : Int32), .ref h11, .int s1_passers_size])), (h11, .inl (cI, 72, .inl s1_passers_cells)), (h12, .inr (7, [.int (5 : Int32), .int (3 : Int32), .ref h13, .int s1_checks_size])), (h13, .inl (cI, 15, .inl s1_checks_cells))] → va_S A s.heap H locs → lv_has ls 8 [(0, .ref h0), (1, .ref h2), (2, .int x2)] → pX3_weigh_10 s1_passers_size s1_passers_cells s1_checks_size s1_checks_cells kx n10 x2 s_goal s_goalMen s_fewest → W p l e ({ frames := 5, cells := 0, slots := 0, locals := 123 } : Room) s m args below meth c H locs 0 0 (MQ below (va_Qv (fun (u : Int32 × Int32 × (Nat → Int32)) => k u.1 u.2.1 u.2.2) (fun (u : Int32 × Int32 × (Nat → Int32)) t => va_P (dC, dI) vwCl [(h0, .inr (3, [.ref h1, .ref r_gains, .int s_men, .int u.1, .int u.2.1])), (h1, .inl (cI, 620, .inl u.2.2)), (h2, .inr (5, [.ref h3, .ref h10, .ref r1_beasts, .ref h12, .ref r1_looks, .int s1_high, .int s1_low])), (h3, .inl (cT, 6, .inr (.inr (.inr (.inr (kd h4 h5 h6 h7 h8 h9)))))), (h4, .inr (9, [])), (h5, .inr (4, [])), (h6, .inr (10, [])), (h7, .inr (2, [])), (h8, .inr (1, [])), (h9, .inr (0, [])), (h10, .inr (7, [.int (12 : Int32), .int (6 : Int32), .ref h11, .int s1_passers_size])), (h11, .inl (cI, 72, .inl s1_passers_cells)), (h12, .inr (7, [.int (5 : Int32), .int (3 : Int32), .ref h13, .int s1_checks_size])), (h13, .inl (cI, 15, .inl s1_checks_cells))] t.heap ∧ va_D A [(h0, .inr (3, [.ref h1, .ref r_gains, .int s_men, .int u.1, .int u.2.1])), (h1, .inl (cI, 620, .inl u.2.2)), (h2, .inr (5, [.ref h3, .ref h10, .ref r1_beasts, .ref h12, .ref r1_looks, .int s1_high, .int s1_low])), (h3, .inl (cT, 6, .inr (.inr (.inr (.inr (kd h4 h5 h6 h7 h8 h9)))))), (h4, .inr (9, [])), (h5, .inr (4, [])), (h6, .inr (10, [])), (h7, .inr (2, [])), (h8, .inr (1, [])), (h9, .inr (0, [])), (h10, .inr (7, [.int (12 : Int32), .int (6 : Int32), .ref h11, .int s1_passers_size])), (h11, .inl (cI, 72, .inl s1_passers_cells)), (h12, .inr (7, [.int (5 : Int32), .int (3 : Int32), .ref h13, .int s1_checks_size])), (h13, .inl (cI, 15, .inl s1_checks_cells))]) A) args s 0 0 A) (F0 m 10 ls []) := by
  obtain ⟨hx, hb, hml, hown, hts, hr, hlocks⟩ := id C
  intro n10
  induction n10 with
  | zero =>
    intro x2 s_goal s_goalMen s_fewest H locs ls hP hD hS hl hf
    rw [pX3_weigh_10] at hf
    exact hf.elim
  | succ n10 ih =>
    intro x2 s_goal s_goalMen s_fewest H locs ls hP hD hS hl hf
    rw [pX3_weigh_10] at hf
    refine lv_iload_n hx hb dX3_weigh_10 rfl (lv_at hl 2 rfl) ?_
    refine lv_if_le (tgt := 110) hx hb dX3_weigh_11 (by decide) (fun c_2 => ?_) (fun c_2 => ?_)
    · replace hf := hf.1 c_2
      exact hkx s_goal s_goalMen s_fewest H locs ls hP hD hS (lv_sub hl [0, 1] rfl) hf
    · replace hf := hf.2 c_2
      refine lv_aload_n hx hb dX3_weigh_14 rfl (lv_at hl 1 rfl) ?_
      refine lv_iload_n hx hb dX3_weigh_15 rfl (lv_at hl 2 rfl) ?_
      have hPc := hP.sub (ws' := [(h2, .inr (5, [.ref h3, .ref h10, .ref r1_beasts, .ref h12, .ref r1_looks, .int s1_high, .int s1_low])), (h10, .inr (7, [.int (12 : Int32), .int (6 : Int32), .ref h11, .int s1_passers_size])), (h11, .inl (cI, 72, .inl s1_passers_cells)), (h12, .inr (7, [.int (5 : Int32), .int (3 : Int32), .ref h13, .int s1_checks_size])), (h13, .inl (cI, 15, .inl s1_checks_cells))]) [2, 10, 11, 12, 13] rfl
      refine ro_calli (va_runS (As := [.ref h2, .int x2]) (rest := []) ⟨hx, hb, hml, hown, hts⟩ (metX3_passedAhead hf) (va_cwS 2 hts gX3_weigh_X3_passedAhead rfl rfl rfl kX3_passedAhead ⟨Nat.le_of_ble_eq_true rfl, Nat.le_of_ble_eq_true rfl⟩) ⟨PW.blind, fun U hU hW => ⟨rfl, PW.go hU hW hPc hK hN⟩⟩ rfl rfl hl.1 rfl (lv_room (Nat.le_of_ble_eq_true rfl)) dX3_weigh_16 ⟨Nat.zero_le _, Nat.zero_le _⟩) (fun r_3 hf => ?_)
      refine lv_istore_n (lv' := [(3, .int r_3), (0, .ref h0), (1, .ref h2), (2, .int x2)]) hx hb dX3_weigh_19 rfl hl (by decide) rfl (fun ls hl => ?_)
      refine lv_aload_n hx hb dX3_weigh_20 rfl (lv_at hl 2 rfl) ?_
      refine lv_iload_n hx hb dX3_weigh_21 rfl (lv_at hl 3 rfl) ?_
      refine lv_iconst (v := (1 : Int32)) hx hb dX3_weigh_22 (by decide) ?_
      refine lv_iadd hx hb dX3_weigh_23 ?_
      have hPc := hP.sub (ws' := [(h2, .inr (5, [.ref h3, .ref h10, .ref r1_beasts, .ref h12, .ref r1_looks, .int s1_high, .int s1_low])), (h10, .inr (7, [.int (12 : Int32), .int (6 : Int32), .ref h11, .int s1_passers_size])), (h11, .inl (cI, 72, .inl s1_passers_cells)), (h12, .inr (7, [.int (5 : Int32), .int (3 : Int32), .ref h13, .int s1_checks_size])), (h13, .inl (cI, 15, .inl s1_checks_cells))]) [2, 10, 11, 12, 13] rfl
      refine ro_calli (va_runS (As := [.ref h2, .int (x2 + (1 : Int32))]) (rest := []) ⟨hx, hb, hml, hown, hts⟩ (metX3_passedAhead hf) (va_cwS 2 hts gX3_weigh_X3_passedAhead rfl rfl rfl kX3_passedAhead ⟨Nat.le_of_ble_eq_true rfl, Nat.le_of_ble_eq_true rfl⟩) ⟨PW.blind, fun U hU hW => ⟨rfl, PW.go hU hW hPc hK hN⟩⟩ rfl rfl hl.1 rfl (lv_room (Nat.le_of_ble_eq_true rfl)) dX3_weigh_24 ⟨Nat.zero_le _, Nat.zero_le _⟩) (fun r_4 hf => ?_)
      refine lv_istore (lv' := [(4, .int r_4), (3, .int r_3), (0, .ref h0), (1, .ref h2), (2, .int x2)]) hx hb dX3_weigh_27 hl (by decide) rfl (fun ls hl => ?_)
      refine lv_aload_n hx hb dX3_weigh_29 rfl (lv_at hl 3 rfl) ?_
      refine va_getN (D := (dC, dI)) (ci := 5) (v := .ref h12) (C := RX5) (T := TX5) (N := 7) hx hb hts iX3_weigh_X5 hown hK hP 2 rfl rfl 3 (by decide) (va_Nw.use rfl (hN _ nwf_3)) (fun _ h9 => h9) rfl dX3_weigh_30 ?_
      refine lv_iload_n hx hb dX3_weigh_33 rfl (lv_at hl 4 rfl) ?_
      refine lv_iconst (v := (1 : Int32)) hx hb dX3_weigh_34 (by decide) ?_
      refine lv_isub hx hb dX3_weigh_35 ?_
      refine lv_iconst (v := (1 : Int32)) hx hb dX3_weigh_36 (by decide) ?_
      have hPc := hP.sub (ws' := [(h12, .inr (7, [.int (5 : Int32), .int (3 : Int32), .ref h13, .int s1_checks_size])), (h13, .inl (cI, 15, .inl s1_checks_cells))]) [12, 13] rfl
      refine ro_calli (va_runV (As := [.int (x2 - (1 : Int32)), .int (1 : Int32)]) (rest := []) ⟨hx, hb, hml, hown, hts⟩ (metX7_at hf) (cwV 2 hts gX3_weigh_X7_at rfl rfl rfl ⟨rfl, kX7_at⟩ ⟨Nat.le_of_ble_eq_true rfl, Nat.le_of_ble_eq_true rfl⟩) ⟨PW.blind, va_recv hK hPc (ci := 7) (q0 := 0) rfl rfl, fun U hU hW => ⟨rfl, PW.go hU hW hPc hK hN⟩⟩ rfl rfl hl.1 rfl (lv_room (Nat.le_of_ble_eq_true rfl)) dX3_weigh_37 ⟨Nat.zero_le _, Nat.zero_le _⟩) (fun r_5 hf => ?_)
      refine lv_iconst (v := (4 : Int32)) hx hb dX3_weigh_40 (by decide) ?_
      refine lv_imul hx hb dX3_weigh_41 ?_
      refine lv_istore (lv' := [(5, .int (r_5 * (4 : Int32))), (4, .int r_4), (3, .int r_3), (0, .ref h0), (1, .ref h2), (2, .int x2)]) hx hb dX3_weigh_42 hl (by decide) rfl (fun ls hl => ?_)
      refine lv_aload_n hx hb dX3_weigh_44 rfl (lv_at hl 4 rfl) ?_
      refine va_getN (D := (dC, dI)) (ci := 5) (v := .ref h12) (C := RX5) (T := TX5) (N := 7) hx hb hts iX3_weigh_X5 hown hK hP 2 rfl rfl 3 (by decide) (va_Nw.use rfl (hN _ nwf_3)) (fun _ h9 => h9) rfl dX3_weigh_45 ?_
      refine lv_iload_n hx hb dX3_weigh_48 rfl (lv_at hl 5 rfl) ?_
      refine lv_iconst (v := (1 : Int32)) hx hb dX3_weigh_49 (by decide) ?_
      refine lv_isub hx hb dX3_weigh_50 ?_
      refine lv_iconst (v := (2 : Int32)) hx hb dX3_weigh_51 (by decide) ?_
      have hPc := hP.sub (ws' := [(h12, .inr (7, [.int (5 : Int32), .int (3 : Int32), .ref h13, .int s1_checks_size])), (h13, .inl (cI, 15, .inl s1_checks_cells))]) [12, 13] rfl
      refine ro_calli (va_runV (As := [.int (x2 - (1 : Int32)), .int (2 : Int32)]) (rest := []) ⟨hx, hb, hml, hown, hts⟩ (metX7_at hf) (cwV 2 hts gX3_weigh_X7_at rfl rfl rfl ⟨rfl, kX7_at⟩ ⟨Nat.le_of_ble_eq_true rfl, Nat.le_of_ble_eq_true rfl⟩) ⟨PW.blind, va_recv hK hPc (ci := 7) (q0 := 0) rfl rfl, fun U hU hW => ⟨rfl, PW.go hU hW hPc hK hN⟩⟩ rfl rfl hl.1 rfl (lv_room (Nat.le_of_ble_eq_true rfl)) dX3_weigh_52 ⟨Nat.zero_le _, Nat.zero_le _⟩) (fun r_6 hf => ?_)
      refine lv_iconst (v := (4 : Int32)) hx hb dX3_weigh_55 (by decide) ?_
      refine lv_imul hx hb dX3_weigh_56 ?_
      refine lv_iconst (v := (4 : Int32)) hx hb dX3_weigh_57 (by decide) ?_
      refine lv_iadd hx hb dX3_weigh_58 ?_
      refine lv_istore (lv' := [(6, .int ((r_6 * (4 : Int32)) + (4 : Int32))), (5, .int (r_5 * (4 : Int32))), (4, .int r_4), (3, .int r_3), (0, .ref h0), (1, .ref h2), (2, .int x2)]) hx hb dX3_weigh_59 hl (by decide) rfl (fun ls hl => ?_)
      refine lv_iload hx hb dX3_weigh_61 (lv_at hl 1 rfl) ?_
      refine lv_istore (lv' := [(7, .int (r_5 * (4 : Int32))), (6, .int ((r_6 * (4 : Int32)) + (4 : Int32))), (5, .int (r_5 * (4 : Int32))), (4, .int r_4), (3, .int r_3), (0, .ref h0), (1, .ref h2), (2, .int x2)]) hx hb dX3_weigh_63 hl (by decide) rfl (fun ls hl => ?_)
      obtain ⟨n65, hf⟩ := hf
      refine wX3_weigh_65 C hK hN hA (fun x2_11 s_goal_11 s_goalMen_11 s_fewest_11 H locs ls hP hD hS hl hf => ?_) n65 x2 r_3 r_4 ((r_6 * (4 : Int32)) + (4 : Int32)) (r_5 * (4 : Int32)) s_goal s_goalMen s_fewest H locs ls hP hD hS (lv_sub hl [5, 6, 7, 4, 3, 1, 0] rfl) hf
      refine lv_iinc (v := (x2_11 + (-1))) (lv' := [(2, .int (x2_11 + (-1))), (0, .ref h0), (1, .ref h2)]) hx hb dX3_weigh_104 hl (k := 2) rfl (by rfl) (by decide) rfl (fun ls hl => ?_)
      refine lv_goto (tgt := 10) hx hb dX3_weigh_107 (by decide) ?_
      exact ih (x2_11 + (-1)) s_goal_11 s_goalMen_11 s_fewest_11 H locs ls hP hD hS (lv_sub hl [1, 2, 0] rfl) hf
set_option maxHeartbeats 4000000 in
set_option maxRecDepth 100000 in
theorem metX3_weigh {h0 r_gains h1 h2 r1_beasts r1_looks h3 h4 h5 h6 h7 h8 h9 h10 h11 h12 h13 : Nat} {s_men s_goal s_goalMen s1_high s1_low s1_passers_size s1_checks_size : Int32} {s_fewest s1_passers_cells s1_checks_cells : Nat → Int32}  {sz : Nat} {k : Int32 → Int32 → (Nat → Int32) → Prop} (hf : pX3_weigh s_goal s_goalMen s_fewest s1_passers_size s1_passers_cells s1_checks_size s1_checks_cells k) : Met l yX3_weigh wsX3_weigh ({ frames := 5, cells := 0, slots := 0, locals := 123 } : Room) (va_Pc [.ref h0, .ref h2] (PR dC dI (TYS cI cL cB cZ cT cR) [(h0, .inr (3, [.ref h1, .ref r_gains, .int s_men, .int s_goal, .int s_goalMen])), (h1, .inl (cI, 620, .inl s_fewest)), (h2, .inr (5, [.ref h3, .ref h10, .ref r1_beasts, .ref h12, .ref r1_looks, .int s1_high, .int s1_low])), (h3, .inl (cT, 6, .inr (.inr (.inr (.inr (kd h4 h5 h6 h7 h8 h9)))))), (h4, .inr (9, [])), (h5, .inr (4, [])), (h6, .inr (10, [])), (h7, .inr (2, [])), (h8, .inr (1, [])), (h9, .inr (0, [])), (h10, .inr (7, [.int (12 : Int32), .int (6 : Int32), .ref h11, .int s1_passers_size])), (h11, .inl (cI, 72, .inl s1_passers_cells)), (h12, .inr (7, [.int (5 : Int32), .int (3 : Int32), .ref h13, .int s1_checks_size])), (h13, .inl (cI, 15, .inl s1_checks_cells))] sz)) (va_Qv (fun (u : Int32 × Int32 × (Nat → Int32)) => k u.1 u.2.1 u.2.2) (fun (u : Int32 × Int32 × (Nat → Int32)) t => va_P (dC, dI) vwCl [(h0, .inr (3, [.ref h1, .ref r_gains, .int s_men, .int u.1, .int u.2.1])), (h1, .inl (cI, 620, .inl u.2.2)), (h2, .inr (5, [.ref h3, .ref h10, .ref r1_beasts, .ref h12, .ref r1_looks, .int s1_high, .int s1_low])), (h3, .inl (cT, 6, .inr (.inr (.inr (.inr (kd h4 h5 h6 h7 h8 h9)))))), (h4, .inr (9, [])), (h5, .inr (4, [])), (h6, .inr (10, [])), (h7, .inr (2, [])), (h8, .inr (1, [])), (h9, .inr (0, [])), (h10, .inr (7, [.int (12 : Int32), .int (6 : Int32), .ref h11, .int s1_passers_size])), (h11, .inl (cI, 72, .inl s1_passers_cells)), (h12, .inr (7, [.int (5 : Int32), .int (3 : Int32), .ref h13, .int s1_checks_size])), (h13, .inl (cI, 15, .inl s1_checks_cells))] t.heap ∧ va_D (va_A [(h0, .inr (3, [.ref h1, .ref r_gains, .int s_men, .int s_goal, .int s_goalMen])), (h1, .inl (cI, 620, .inl s_fewest)), (h2, .inr (5, [.ref h3, .ref h10, .ref r1_beasts, .ref h12, .ref r1_looks, .int s1_high, .int s1_low])), (h3, .inl (cT, 6, .inr (.inr (.inr (.inr (kd h4 h5 h6 h7 h8 h9)))))), (h4, .inr (9, [])), (h5, .inr (4, [])), (h6, .inr (10, [])), (h7, .inr (2, [])), (h8, .inr (1, [])), (h9, .inr (0, [])), (h10, .inr (7, [.int (12 : Int32), .int (6 : Int32), .ref h11, .int s1_passers_size])), (h11, .inl (cI, 72, .inl s1_passers_cells)), (h12, .inr (7, [.int (5 : Int32), .int (3 : Int32), .ref h13, .int s1_checks_size])), (h13, .inl (cI, 15, .inl s1_checks_cells))] sz) [(h0, .inr (3, [.ref h1, .ref r_gains, .int s_men, .int u.1, .int u.2.1])), (h1, .inl (cI, 620, .inl u.2.2)), (h2, .inr (5, [.ref h3, .ref h10, .ref r1_beasts, .ref h12, .ref r1_looks, .int s1_high, .int s1_low])), (h3, .inl (cT, 6, .inr (.inr (.inr (.inr (kd h4 h5 h6 h7 h8 h9)))))), (h4, .inr (9, [])), (h5, .inr (4, [])), (h6, .inr (10, [])), (h7, .inr (2, [])), (h8, .inr (1, [])), (h9, .inr (0, [])), (h10, .inr (7, [.int (12 : Int32), .int (6 : Int32), .ref h11, .int s1_passers_size])), (h11, .inl (cI, 72, .inl s1_passers_cells)), (h12, .inr (7, [.int (5 : Int32), .int (3 : Int32), .ref h13, .int s1_checks_size])), (h13, .inl (cI, 15, .inl s1_checks_cells))]) (va_A [(h0, .inr (3, [.ref h1, .ref r_gains, .int s_men, .int s_goal, .int s_goalMen])), (h1, .inl (cI, 620, .inl s_fewest)), (h2, .inr (5, [.ref h3, .ref h10, .ref r1_beasts, .ref h12, .ref r1_looks, .int s1_high, .int s1_low])), (h3, .inl (cT, 6, .inr (.inr (.inr (.inr (kd h4 h5 h6 h7 h8 h9)))))), (h4, .inr (9, [])), (h5, .inr (4, [])), (h6, .inr (10, [])), (h7, .inr (2, [])), (h8, .inr (1, [])), (h9, .inr (0, [])), (h10, .inr (7, [.int (12 : Int32), .int (6 : Int32), .ref h11, .int s1_passers_size])), (h11, .inl (cI, 72, .inl s1_passers_cells)), (h12, .inr (7, [.int (5 : Int32), .int (3 : Int32), .ref h13, .int s1_checks_size])), (h13, .inl (cI, 15, .inl s1_checks_cells))] sz)) 0 0 (va_A [(h0, .inr (3, [.ref h1, .ref r_gains, .int s_men, .int s_goal, .int s_goalMen])), (h1, .inl (cI, 620, .inl s_fewest)), (h2, .inr (5, [.ref h3, .ref h10, .ref r1_beasts, .ref h12, .ref r1_looks, .int s1_high, .int s1_low])), (h3, .inl (cT, 6, .inr (.inr (.inr (.inr (kd h4 h5 h6 h7 h8 h9)))))), (h4, .inr (9, [])), (h5, .inr (4, [])), (h6, .inr (10, [])), (h7, .inr (2, [])), (h8, .inr (1, [])), (h9, .inr (0, [])), (h10, .inr (7, [.int (12 : Int32), .int (6 : Int32), .ref h11, .int s1_passers_size])), (h11, .inl (cI, 72, .inl s1_passers_cells)), (h12, .inr (7, [.int (5 : Int32), .int (3 : Int32), .ref h13, .int s1_checks_size])), (h13, .inl (cI, 15, .inl s1_checks_cells))] sz) := by
  refine Met.ofW (cc := cX3_weigh) (maxL := 8) (ret := none) (by decide) rfl ?_
  intro p e s m args below meth c s₁ B hml hv
  obtain ⟨rfl, hsz, hP, hK, hN, hD0⟩ := hv
  have C : CX p s m _ meth c cX3_weigh 8 wsX3_weigh RX3 none := ⟨B.exec, B.bytes, hml, findClass_of_methodNamed B.named, atoms_spec (ws := wsX3_weigh) B.pre, B.returns, B.notSynchronized⟩
  obtain ⟨hx, hb, -, hown, hts, hr, hlocks⟩ := id C
  subst hsz
  have hD := hD0.self (sz := s.heap.size)
  generalize hAe : va_A [(h0, .inr (3, [.ref h1, .ref r_gains, .int s_men, .int s_goal, .int s_goalMen])), (h1, .inl (cI, 620, .inl s_fewest)), (h2, .inr (5, [.ref h3, .ref h10, .ref r1_beasts, .ref h12, .ref r1_looks, .int s1_high, .int s1_low])), (h3, .inl (cT, 6, .inr (.inr (.inr (.inr (kd h4 h5 h6 h7 h8 h9)))))), (h4, .inr (9, [])), (h5, .inr (4, [])), (h6, .inr (10, [])), (h7, .inr (2, [])), (h8, .inr (1, [])), (h9, .inr (0, [])), (h10, .inr (7, [.int (12 : Int32), .int (6 : Int32), .ref h11, .int s1_passers_size])), (h11, .inl (cI, 72, .inl s1_passers_cells)), (h12, .inr (7, [.int (5 : Int32), .int (3 : Int32), .ref h13, .int s1_checks_size])), (h13, .inl (cI, 15, .inl s1_checks_cells))] s.heap.size = A at hD ⊢
  have hA : ∀ q : Nat, s.heap.size ≤ q → A q := fun q h => by rw [← hAe]; exact Or.inr h
  have hS : va_S A s.heap s.heap [] := va_S.rf
  have hl := lv_entry ([.ref h0, .ref h2]) (n := 8) (Nat.le_of_ble_eq_true rfl)
  rw [lg_entry_eq]
  generalize (lg_sl ([.ref h0, .ref h2]) ++ List.replicate (8 - (lg_sl ([.ref h0, .ref h2])).length) Slot.unset).toArray = ls at hl ⊢
  have hl : lv_has ls 8 [(0, .ref h0), (1, .ref h2)] := hl
  unfold pX3_weigh at hf
  obtain ⟨H, hH⟩ : ∃ H, H = s.heap := ⟨_, rfl⟩
  obtain ⟨locs, hlo⟩ : ∃ L : List Loc, L = [] := ⟨_, rfl⟩
  have hS : va_S A s.heap H locs := by rw [hH, hlo]; exact hS
  rw [← hH] at hP
  have hG : W p l e ({ frames := 5, cells := 0, slots := 0, locals := 123 } : Room) s m [.ref h0, .ref h2].toArray below meth c H locs 0 0 (MQ below (va_Qv (fun (u : Int32 × Int32 × (Nat → Int32)) => k u.1 u.2.1 u.2.2) (fun (u : Int32 × Int32 × (Nat → Int32)) t => va_P (dC, dI) vwCl [(h0, .inr (3, [.ref h1, .ref r_gains, .int s_men, .int u.1, .int u.2.1])), (h1, .inl (cI, 620, .inl u.2.2)), (h2, .inr (5, [.ref h3, .ref h10, .ref r1_beasts, .ref h12, .ref r1_looks, .int s1_high, .int s1_low])), (h3, .inl (cT, 6, .inr (.inr (.inr (.inr (kd h4 h5 h6 h7 h8 h9)))))), (h4, .inr (9, [])), (h5, .inr (4, [])), (h6, .inr (10, [])), (h7, .inr (2, [])), (h8, .inr (1, [])), (h9, .inr (0, [])), (h10, .inr (7, [.int (12 : Int32), .int (6 : Int32), .ref h11, .int s1_passers_size])), (h11, .inl (cI, 72, .inl s1_passers_cells)), (h12, .inr (7, [.int (5 : Int32), .int (3 : Int32), .ref h13, .int s1_checks_size])), (h13, .inl (cI, 15, .inl s1_checks_cells))] t.heap ∧ va_D A [(h0, .inr (3, [.ref h1, .ref r_gains, .int s_men, .int u.1, .int u.2.1])), (h1, .inl (cI, 620, .inl u.2.2)), (h2, .inr (5, [.ref h3, .ref h10, .ref r1_beasts, .ref h12, .ref r1_looks, .int s1_high, .int s1_low])), (h3, .inl (cT, 6, .inr (.inr (.inr (.inr (kd h4 h5 h6 h7 h8 h9)))))), (h4, .inr (9, [])), (h5, .inr (4, [])), (h6, .inr (10, [])), (h7, .inr (2, [])), (h8, .inr (1, [])), (h9, .inr (0, [])), (h10, .inr (7, [.int (12 : Int32), .int (6 : Int32), .ref h11, .int s1_passers_size])), (h11, .inl (cI, 72, .inl s1_passers_cells)), (h12, .inr (7, [.int (5 : Int32), .int (3 : Int32), .ref h13, .int s1_checks_size])), (h13, .inl (cI, 15, .inl s1_checks_cells))]) A) [.ref h0, .ref h2].toArray s 0 0 A) (F0 m 0 ls []) := by
    clear hlo hH hD0
    refine lv_aload_n hx hb dX3_weigh_0 rfl (lv_at hl 1 rfl) ?_
    refine va_getN (D := (dC, dI)) (ci := 5) (v := .ref h12) (C := RX5) (T := TX5) (N := 7) hx hb hts iX3_weigh_X5 hown hK hP 2 rfl rfl 3 (by decide) (va_Nw.use rfl (hN _ nwf_3)) (fun _ h9 => h9) rfl dX3_weigh_1 ?_
    have hPc := hP.sub (ws' := [(h12, .inr (7, [.int (5 : Int32), .int (3 : Int32), .ref h13, .int s1_checks_size]))]) [12] rfl
    refine ro_calli (va_runV (As := []) (rest := []) ⟨hx, hb, hml, hown, hts⟩ (metX7_size hf) (cwV 0 hts gX3_weigh_X7_size rfl rfl rfl ⟨rfl, kX7_size⟩ ⟨Nat.le_of_ble_eq_true rfl, Nat.le_of_ble_eq_true rfl⟩) ⟨PW.blind, va_recv hK hPc (ci := 7) (q0 := 0) rfl rfl, fun U hU hW => ⟨rfl, PW.go hU hW hPc hK hN⟩⟩ rfl rfl hl.1 rfl (lv_room (Nat.le_of_ble_eq_true rfl)) dX3_weigh_4 ⟨Nat.zero_le _, Nat.zero_le _⟩) (fun r_1 hf => ?_)
    refine lv_iconst (v := (1 : Int32)) hx hb dX3_weigh_7 (by decide) ?_
    refine lv_isub hx hb dX3_weigh_8 ?_
    refine lv_istore_n (lv' := [(2, .int (r_1 - (1 : Int32))), (0, .ref h0), (1, .ref h2)]) hx hb dX3_weigh_9 rfl hl (by decide) rfl (fun ls hl => ?_)
    obtain ⟨n10, hf⟩ := hf
    refine wX3_weigh_10 C hK hN hA (fun s_goal_12 s_goalMen_12 s_fewest_12 H locs ls hP hD hS hl hf => ?_) n10 (r_1 - (1 : Int32)) s_goal s_goalMen s_fewest H locs ls hP hD hS (lv_sub hl [1, 2, 0] rfl) hf
    exact W.vret hx hb hr (fun t ht hW => ⟨⟨(s_goal_12, s_goalMen_12, s_fewest_12), rfl, hf, by rw [ht]; exact hP, hD⟩, hS.F ht⟩) hS.2.2 dX3_weigh_110
  rw [hH, hlo] at hG
  exact hG
set_option maxHeartbeats 4000000 in
set_option maxRecDepth 100000 in
theorem wX3_follow_12 {p : Program} {e : Env} {s : State} {m : MethodId} {args : Array Value} {below : List Frame} {meth : Method} {c : Code} (C : CX p s m args meth c cX3_follow 5 wsX3_follow RX3 none) (hK : va_K (dC, dI) vwCl (TYS cI cL cB cZ cT cR) s) (hN : NW s) {A : Nat → Prop} (hA : ∀ q : Nat, s.heap.size ≤ q → A q) {h0 h1 h2 h3 r1_beasts r1_looks h4 h5 h6 h7 h8 h9 h10 h11 h12 h13 h14 : Nat} {s_fewest s1_passers_cells s1_checks_cells : Nat → Int32} {s1_high s1_low s1_passers_size s1_checks_size : Int32} {k : Int32 → Int32 → Int32 → (Nat → Int32) → Prop} {kx : Int32 → Int32 → Int32 → (Nat → Int32) → Prop} (hkx : ∀ (s_men : Int32) (s_goal : Int32) (s_goalMen : Int32) (s_gains : Nat → Int32) (H : Heap) (locs : List Loc) (ls : Array Slot), va_P (dC, dI) vwCl [(h0, .inr (3, [.ref h1, .ref h2, .int s_men, .int s_goal, .int s_goalMen])), (h1, .inl (cI, 620, .inl s_fewest)), (h2, .inl (cI, 5, .inl s_gains)), (h3, .inr (5, [.ref h4, .ref h11, .ref r1_beasts, .ref h13, .ref r1_looks, .int s1_high, .int s1_low])), (h4, .inl (cT, 6, .inr (.inr (.inr (.inr (kd h5 h6 h7 h8 h9 h10)))))), (h5, .inr (9, [])), (h6, .inr (4, [])), (h7, .inr (10, [])), (h8, .inr (2, [])), (h9, .inr (1, [])), (h10, .inr (0, [])), (h11, .inr (7, [.int (12 : Int32), .int (6 : Int32), .ref h12, .int s1_passers_size])), (h12, .inl (cI, 72, .inl s1_passers_cells)), (h13, .inr (7, [.int (5 : Int32), .int (3 : Int32), .ref h14, .int s1_checks_size])), (h14, .inl (cI, 15, .inl s1_checks_cells))] H → va_D A [(h0, .inr (3, [.ref h1, .ref h2, .int s_men, .int s_goal, .int s_goalMen])), (h1, .inl (cI, 620, .inl s_fewest)), (h2, .inl (cI, 5, .inl s_gains)), (h3, .inr (5, [.ref h4, .ref h11, .ref r1_beasts, .ref h13, .ref r1_looks, .int s1_high, .int s1_low])), (h4, .inl (cT, 6, .inr (.inr (.inr (.inr (kd h5 h6 h7 h8 h9 h10)))))), (h5, .inr (9, [])), (h6, .inr (4, [])), (h7, .inr (10, [])), (h8, .inr (2, [])), (h9, .inr (1, [])), (h10, .inr (0, [])), (h11, .inr (7, [.int (12 : Int32), .int (6 : Int32), .ref h12, .int s1_passers_size])), (h12, .inl (cI, 72, .inl s1_passers_cells)), (h13, .inr (7, [.int (5 : Int32), .int (3 : Int32), .ref h14, .int s1_checks_size])), (h14, .inl (cI, 15, .inl s1_checks_cells))] → va_S A s.heap H locs → lv_has ls 5 [(0, .ref h0), (1, .ref h3)] → kx s_men s_goal s_goalMen s_gains → W p l e ({ frames := 5, cells := 0, slots := 0, locals := 123 } : Room) s m args below meth c H locs 0 0 (MQ below (va_Qv (fun (u : Int32 × Int32 × Int32 × (Nat → Int32)) => k u.1 u.2.1 u.2.2.1 u.2.2.2) (fun (u : Int32 × Int32 × Int32 × (Nat → Int32)) t => va_P (dC, dI) vwCl [(h0, .inr (3, [.ref h1, .ref h2, .int u.1, .int u.2.1, .int u.2.2.1])), (h1, .inl (cI, 620, .inl s_fewest)), (h2, .inl (cI, 5, .inl u.2.2.2)), (h3, .inr (5, [.ref h4, .ref h11, .ref r1_beasts, .ref h13, .ref r1_looks, .int s1_high, .int s1_low])), (h4, .inl (cT, 6, .inr (.inr (.inr (.inr (kd h5 h6 h7 h8 h9 h10)))))), (h5, .inr (9, [])), (h6, .inr (4, [])), (h7, .inr (10, [])), (h8, .inr (2, [])), (h9, .inr (1, [])), (h10, .inr (0, [])), (h11, .inr (7, [.int (12 : Int32), .int (6 : Int32), .ref h12, .int s1_passers_size])), (h12, .inl (cI, 72, .inl s1_passers_cells)), (h13, .inr (7, [.int (5 : Int32), .int (3 : Int32), .ref h14, .int s1_checks_size])), (h14, .inl (cI, 15, .inl s1_checks_cells))] t.heap ∧ va_D A [(h0, .inr (3, [.ref h1, .ref h2, .int u.1, .int u.2.1, .int u.2.2.1])), (h1, .inl (cI, 620, .inl s_fewest)), (h2, .inl (cI, 5, .inl u.2.2.2)), (h3, .inr (5, [.ref h4, .ref h11, .ref r1_beasts, .ref h13, .ref r1_looks, .int s1_high, .int s1_low])), (h4, .inl (cT, 6, .inr (.inr (.inr (.inr (kd h5 h6 h7 h8 h9 h10)))))), (h5, .inr (9, [])), (h6, .inr (4, [])), (h7, .inr (10, [])), (h8, .inr (2, [])), (h9, .inr (1, [])), (h10, .inr (0, [])), (h11, .inr (7, [.int (12 : Int32), .int (6 : Int32), .ref h12, .int s1_passers_size])), (h12, .inl (cI, 72, .inl s1_passers_cells)), (h13, .inr (7, [.int (5 : Int32), .int (3 : Int32), .ref h14, .int s1_checks_size])), (h14, .inl (cI, 15, .inl s1_checks_cells))]) A) args s 0 0 A) (F0 m 112 ls [])) : ∀ (n12 : Nat), ∀ (x2 : Int32) (x3 : Int32) (s_men : Int32) (s_goal : Int32) (s_goalMen : Int32) (s_gains : Nat → Int32) (H : Heap) (locs : List Loc) (ls : Array Slot), va_P (dC, dI) vwCl [(h0, .inr (3, [.ref h1, .ref h2, .int s_men, .int s_goal, .int s_goalMen])), (h1, .inl (cI, 620, .inl s_fewest)), (h2, .inl (cI, 5, .inl s_gains)), (h3, .inr (5, [.ref h4, .ref h11, .ref r1_beasts, .ref h13, .ref r1_looks, .int s1_high, .int s1_low])), (h4, .inl (cT, 6, .inr (.inr (.inr (.inr (kd h5 h6 h7 h8 h9 h10)))))), (h5, .inr (9, [])), (h6, .inr (4, [])), (h7, .inr (10, [])), (h8, .inr (2, [])), (h9, .inr (1, [])), (h10, .inr (0, [])), (h11, .inr (7, [.int (12 : Int32), .int (6 : Int32), .ref h12, .int s1_passers_size])), (h12, .inl (cI, 72, .inl s1_passers_cells)), (h13, .inr (7, [.int (5 : Int32), .int (3 : Int32), .ref h14, .int s1_checks_size])), (h14, .inl (cI, 15, .inl s1_checks_cells))] H → va_D A [(h0, .inr (3, [.ref h1, .ref h2, .int s_men, .int s_goal, .int s_goalMen])), (h1, .inl (cI, 620, .inl s_fewest)), (h2, .inl (cI, 5, .inl s_gains)), (h3, .inr (5, [.ref h4, .ref h11, .ref r1_beasts, .ref h13, .ref r1_looks, .int s1_high, .int s1_low])), (h4, .inl (cT, 6, .inr (.inr (.inr (.inr (kd h5 h6 h7 h8 h9 h10)))))), (h5, .inr (9, [])), (h6, .inr (4, [])), (h7, .inr (10, [])), (h8, .inr (2, [])), (h9, .inr (1, [])), (h10, .inr (0, [])), (h11, .inr (7, [.int (12 : Int32), .int (6 : Int32), .ref h12, .int s1_passers_size])), (h12, .inl (cI, 72, .inl s1_passers_cells)), (h13, .inr (7, [.int (5 : Int32), .int (3 : Int32), .ref h14, .int s1_checks_size])), (h14, .inl (cI, 15, .inl s1_checks_cells))] → va_S A s.heap H locs → lv_has ls 5 [(0, .ref h0), (1, .ref h3), (2, .int x2), (3, .int x3)] → pX3_follow_12 s_fewest s1_passers_size s1_passers_cells s1_checks_size s1_checks_cells kx n12 x2 x3 s_men s_goal s_goalMen s_gains → W p l e ({ frames := 5, cells := 0, slots := 0, locals := 123 } : Room) s m args below meth c H locs 0 0 (MQ below (va_Qv (fun (u : Int32 × Int32 × Int32 × (Nat → Int32)) => k u.1 u.2.1 u.2.2.1 u.2.2.2) (fun (u : Int32 × Int32 × Int32 × (Nat → Int32)) t => va_P (dC, dI) vwCl [(h0, .inr (3, [.ref h1, .ref h2, .int u.1, .int u.2.1, .int u.2.2.1])), (h1, .inl (cI, 620, .inl s_fewest)), (h2, .inl (cI, 5, .inl u.2.2.2)), (h3, .inr (5, [.ref h4, .ref h11, .ref r1_beasts, .ref h13, .ref r1_looks, .int s1_high, .int s1_low])), (h4, .inl (cT, 6, .inr (.inr (.inr (.inr (kd h5 h6 h7 h8 h9 h10)))))), (h5, .inr (9, [])), (h6, .inr (4, [])), (h7, .inr (10, [])), (h8, .inr (2, [])), (h9, .inr (1, [])), (h10, .inr (0, [])), (h11, .inr (7, [.int (12 : Int32), .int (6 : Int32), .ref h12, .int s1_passers_size])), (h12, .inl (cI, 72, .inl s1_passers_cells)), (h13, .inr (7, [.int (5 : Int32), .int (3 : Int32), .ref h14, .int s1_checks_size])), (h14, .inl (cI, 15, .inl s1_checks_cells))] t.heap ∧ va_D A [(h0, .inr (3, [.ref h1, .ref h2, .int u.1, .int u.2.1, .int u.2.2.1])), (h1, .inl (cI, 620, .inl s_fewest)), (h2, .inl (cI, 5, .inl u.2.2.2)), (h3, .inr (5, [.ref h4, .ref h11, .ref r1_beasts, .ref h13, .ref r1_looks, .int s1_high, .int s1_low])), (h4, .inl (cT, 6, .inr (.inr (.inr (.inr (kd h5 h6 h7 h8 h9 h10)))))), (h5, .inr (9, [])), (h6, .inr (4, [])), (h7, .inr (10, [])), (h8, .inr (2, [])), (h9, .inr (1, [])), (h10, .inr (0, [])), (h11, .inr (7, [.int (12 : Int32), .int (6 : Int32), .ref h12, .int s1_passers_size])), (h12, .inl (cI, 72, .inl s1_passers_cells)), (h13, .inr (7, [.int (5 : Int32), .int (3 : Int32), .ref h14, .int s1_checks_size])), (h14, .inl (cI, 15, .inl s1_checks_cells))]) A) args s 0 0 A) (F0 m 12 ls []) := by
  obtain ⟨hx, hb, hml, hown, hts, hr, hlocks⟩ := id C
  intro n12
  induction n12 with
  | zero =>
    intro x2 x3 s_men s_goal s_goalMen s_gains H locs ls hP hD hS hl hf
    rw [pX3_follow_12] at hf
    exact hf.elim
  | succ n12 ih =>
    intro x2 x3 s_men s_goal s_goalMen s_gains H locs ls hP hD hS hl hf
    rw [pX3_follow_12] at hf
    refine lv_iload_n hx hb dX3_follow_12 rfl (lv_at hl 3 rfl) ?_
    refine lv_aload_n hx hb dX3_follow_13 rfl (lv_at hl 0 rfl) ?_
    refine va_get (D := (dC, dI)) (ci := 3) (v := .ref h2) (C := RX3) (T := TX3) (N := 5) hx hb hts iX3_follow_X3 hown hK hP 0 rfl rfl 1 (by decide) (hts _ mX3_follow_f15) (fun _ h9 => h9) rfl dX3_follow_14 ?_
    refine va_alen (v := (5 : Int32)) hx hb hK hP 2 0 rfl rfl rfl dX3_follow_17 ?_
    refine lv_icmp_ge (tgt := 112) hx hb dX3_follow_18 (by decide) (fun c_2 => ?_) (fun c_2 => ?_)
    · replace hf := hf.1 c_2
      exact hkx s_men s_goal s_goalMen s_gains H locs ls hP hD hS (lv_sub hl [0, 1] rfl) hf
    · replace hf := hf.2 c_2
      refine lv_iload_n hx hb dX3_follow_21 rfl (lv_at hl 3 rfl) ?_
      refine lv_aload_n hx hb dX3_follow_22 rfl (lv_at hl 1 rfl) ?_
      refine va_getN (D := (dC, dI)) (ci := 5) (v := .ref h13) (C := RX5) (T := TX5) (N := 7) hx hb hts iX3_follow_X5 hown hK hP 3 rfl rfl 3 (by decide) (va_Nw.use rfl (hN _ nwf_3)) (fun _ h9 => h9) rfl dX3_follow_23 ?_
      have hPc := hP.sub (ws' := [(h13, .inr (7, [.int (5 : Int32), .int (3 : Int32), .ref h14, .int s1_checks_size]))]) [13] rfl
      refine ro_calli (va_runV (As := []) (rest := [.int x3]) ⟨hx, hb, hml, hown, hts⟩ (metX7_size hf) (cwV 0 hts gX3_follow_X7_size rfl rfl rfl ⟨rfl, kX7_size⟩ ⟨Nat.le_of_ble_eq_true rfl, Nat.le_of_ble_eq_true rfl⟩) ⟨PW.blind, va_recv hK hPc (ci := 7) (q0 := 0) rfl rfl, fun U hU hW => ⟨rfl, PW.go hU hW hPc hK hN⟩⟩ rfl rfl hl.1 rfl (lv_room (Nat.le_of_ble_eq_true rfl)) dX3_follow_26 ⟨Nat.zero_le _, Nat.zero_le _⟩) (fun r_3 hf => ?_)
      refine lv_icmp_ge (tgt := 112) hx hb dX3_follow_29 (by decide) (fun c_4 => ?_) (fun c_4 => ?_)
      · replace hf := hf.1 c_4
        exact hkx s_men s_goal s_goalMen s_gains H locs ls hP hD hS (lv_sub hl [0, 1] rfl) hf
      · replace hf := hf.2 c_4
        refine lv_aload_n hx hb dX3_follow_32 rfl (lv_at hl 1 rfl) ?_
        refine lv_aload_n hx hb dX3_follow_33 rfl (lv_at hl 1 rfl) ?_
        refine lv_iload_n hx hb dX3_follow_34 rfl (lv_at hl 3 rfl) ?_
        have hPc := hP.sub (ws' := [(h3, .inr (5, [.ref h4, .ref h11, .ref r1_beasts, .ref h13, .ref r1_looks, .int s1_high, .int s1_low])), (h11, .inr (7, [.int (12 : Int32), .int (6 : Int32), .ref h12, .int s1_passers_size])), (h12, .inl (cI, 72, .inl s1_passers_cells)), (h13, .inr (7, [.int (5 : Int32), .int (3 : Int32), .ref h14, .int s1_checks_size])), (h14, .inl (cI, 15, .inl s1_checks_cells))]) [3, 11, 12, 13, 14] rfl
        refine ro_calli (va_runS (As := [.ref h3, .int x3]) (rest := [.ref h3]) ⟨hx, hb, hml, hown, hts⟩ (metX3_passedAhead hf) (va_cwS 2 hts gX3_follow_X3_passedAhead rfl rfl rfl kX3_passedAhead ⟨Nat.le_of_ble_eq_true rfl, Nat.le_of_ble_eq_true rfl⟩) ⟨PW.blind, fun U hU hW => ⟨rfl, PW.go hU hW hPc hK hN⟩⟩ rfl rfl hl.1 rfl (lv_room (Nat.le_of_ble_eq_true rfl)) dX3_follow_35 ⟨Nat.zero_le _, Nat.zero_le _⟩) (fun r_5 hf => ?_)
        refine lv_aload_n hx hb dX3_follow_38 rfl (lv_at hl 1 rfl) ?_
        refine lv_iload_n hx hb dX3_follow_39 rfl (lv_at hl 3 rfl) ?_
        refine lv_iconst (v := (1 : Int32)) hx hb dX3_follow_40 (by decide) ?_
        refine lv_iadd hx hb dX3_follow_41 ?_
        have hPc := hP.sub (ws' := [(h3, .inr (5, [.ref h4, .ref h11, .ref r1_beasts, .ref h13, .ref r1_looks, .int s1_high, .int s1_low])), (h11, .inr (7, [.int (12 : Int32), .int (6 : Int32), .ref h12, .int s1_passers_size])), (h12, .inl (cI, 72, .inl s1_passers_cells)), (h13, .inr (7, [.int (5 : Int32), .int (3 : Int32), .ref h14, .int s1_checks_size])), (h14, .inl (cI, 15, .inl s1_checks_cells))]) [3, 11, 12, 13, 14] rfl
        refine ro_calli (va_runS (As := [.ref h3, .int (x3 + (1 : Int32))]) (rest := [.int r_5, .ref h3]) ⟨hx, hb, hml, hown, hts⟩ (metX3_passedAhead hf) (va_cwS 2 hts gX3_follow_X3_passedAhead rfl rfl rfl kX3_passedAhead ⟨Nat.le_of_ble_eq_true rfl, Nat.le_of_ble_eq_true rfl⟩) ⟨PW.blind, fun U hU hW => ⟨rfl, PW.go hU hW hPc hK hN⟩⟩ rfl rfl hl.1 rfl (lv_room (Nat.le_of_ble_eq_true rfl)) dX3_follow_42 ⟨Nat.zero_le _, Nat.zero_le _⟩) (fun r_6 hf => ?_)
        refine lv_iload_n hx hb dX3_follow_45 rfl (lv_at hl 2 rfl) ?_
        have hPc := hP.sub (ws' := [(h3, .inr (5, [.ref h4, .ref h11, .ref r1_beasts, .ref h13, .ref r1_looks, .int s1_high, .int s1_low])), (h4, .inl (cT, 6, .inr (.inr (.inr (.inr (kd h5 h6 h7 h8 h9 h10)))))), (h5, .inr (9, [])), (h6, .inr (4, [])), (h7, .inr (10, [])), (h8, .inr (2, [])), (h9, .inr (1, [])), (h10, .inr (0, [])), (h11, .inr (7, [.int (12 : Int32), .int (6 : Int32), .ref h12, .int s1_passers_size])), (h12, .inl (cI, 72, .inl s1_passers_cells))]) [3, 4, 5, 6, 7, 8, 9, 10, 11, 12] rfl
        refine ro_calli (va_runV (As := [.int r_5, .int r_6, .int x2]) (rest := []) ⟨hx, hb, hml, hown, hts⟩ (metX5_walk hf) (cwV 3 hts gX3_follow_X5_walk rfl rfl rfl ⟨rfl, kX5_walk⟩ ⟨Nat.le_of_ble_eq_true rfl, Nat.le_of_ble_eq_true rfl⟩) ⟨PW.blind, va_recv hK hPc (ci := 5) (q0 := 0) rfl rfl, fun U hU hW => ⟨rfl, PW.go hU hW hPc hK hN⟩⟩ rfl rfl hl.1 rfl (lv_room (Nat.le_of_ble_eq_true rfl)) dX3_follow_46 ⟨Nat.zero_le _, Nat.zero_le _⟩) (fun r_7 hf => ?_)
        refine lv_istore (lv' := [(4, .int r_7), (0, .ref h0), (1, .ref h3), (2, .int x2), (3, .int x3)]) hx hb dX3_follow_49 hl (by decide) rfl (fun ls hl => ?_)
        refine lv_aload_n hx hb dX3_follow_51 rfl (lv_at hl 1 rfl) ?_
        refine lv_aload_n hx hb dX3_follow_52 rfl (lv_at hl 2 rfl) ?_
        refine lv_iload_n hx hb dX3_follow_53 rfl (lv_at hl 4 rfl) ?_
        refine lv_iload hx hb dX3_follow_54 (lv_at hl 0 rfl) ?_
        have hPc := hP.sub (ws' := [(h0, .inr (3, [.ref h1, .ref h2, .int s_men, .int s_goal, .int s_goalMen])), (h1, .inl (cI, 620, .inl s_fewest)), (h3, .inr (5, [.ref h4, .ref h11, .ref r1_beasts, .ref h13, .ref r1_looks, .int s1_high, .int s1_low])), (h13, .inr (7, [.int (5 : Int32), .int (3 : Int32), .ref h14, .int s1_checks_size])), (h14, .inl (cI, 15, .inl s1_checks_cells))]) [0, 1, 3, 13, 14] rfl
        have hDc := hD.sub (ws' := [(h0, .inr (3, [.ref h1, .ref h2, .int s_men, .int s_goal, .int s_goalMen])), (h1, .inl (cI, 620, .inl s_fewest)), (h3, .inr (5, [.ref h4, .ref h11, .ref r1_beasts, .ref h13, .ref r1_looks, .int s1_high, .int s1_low])), (h13, .inr (7, [.int (5 : Int32), .int (3 : Int32), .ref h14, .int s1_checks_size])), (h14, .inl (cI, 15, .inl s1_checks_cells))]) [0, 1, 3, 13, 14] (by decide) rfl
        have hFc := va_free (wc := [(h0, .inr (3, [.ref h1, .ref h2, .int s_men, .int s_goal, .int s_goalMen])), (h1, .inl (cI, 620, .inl s_fewest)), (h3, .inr (5, [.ref h4, .ref h11, .ref r1_beasts, .ref h13, .ref r1_looks, .int s1_high, .int s1_low])), (h13, .inr (7, [.int (5 : Int32), .int (3 : Int32), .ref h14, .int s1_checks_size])), (h14, .inl (cI, 15, .inl s1_checks_cells))]) hD hS hA [0, 1, 3, 13, 14] rfl
        refine va_callv (va_runV (As := [.ref h3, .int x3, .int r_7]) (rest := []) ⟨hx, hb, hml, hown, hts⟩ (metX3_seekGoal (sz := H.size) hf) (cwV 3 hts gX3_follow_X3_seekGoal rfl rfl rfl ⟨rfl, kX3_seekGoal⟩ ⟨Nat.le_of_ble_eq_true rfl, Nat.le_of_ble_eq_true rfl⟩) ⟨PR.blind, va_recv hK hPc (ci := 3) (q0 := 0) rfl rfl, fun U hU hW => ⟨rfl, PR.go hU hW hPc hDc hK hN⟩⟩ rfl rfl hl.1 rfl (lv_room (Nat.le_of_ble_eq_true rfl)) dX3_follow_56 ⟨Nat.zero_le _, Nat.zero_le _⟩) hS (fun q _ h => hFc q h) hFc (fun u t H1 locs ht hvm hf hB hz1 hk1 hS => ?_)
        obtain ⟨s_goal_8, s_goalMen_8⟩ := u
        have hP1 : va_P (dC, dI) vwCl [(h0, .inr (3, [.ref h1, .ref h2, .int s_men, .int s_goal_8, .int s_goalMen_8])), (h1, .inl (cI, 620, .inl s_fewest)), (h3, .inr (5, [.ref h4, .ref h11, .ref r1_beasts, .ref h13, .ref r1_looks, .int s1_high, .int s1_low])), (h13, .inr (7, [.int (5 : Int32), .int (3 : Int32), .ref h14, .int s1_checks_size])), (h14, .inl (cI, 15, .inl s1_checks_cells))] H1 := by rw [← ht]; exact hB.1
        have hD1 : va_D (va_A [(h0, .inr (3, [.ref h1, .ref h2, .int s_men, .int s_goal, .int s_goalMen])), (h1, .inl (cI, 620, .inl s_fewest)), (h3, .inr (5, [.ref h4, .ref h11, .ref r1_beasts, .ref h13, .ref r1_looks, .int s1_high, .int s1_low])), (h13, .inr (7, [.int (5 : Int32), .int (3 : Int32), .ref h14, .int s1_checks_size])), (h14, .inl (cI, 15, .inl s1_checks_cells))] H.size) [(h0, .inr (3, [.ref h1, .ref h2, .int s_men, .int s_goal_8, .int s_goalMen_8])), (h1, .inl (cI, 620, .inl s_fewest)), (h3, .inr (5, [.ref h4, .ref h11, .ref r1_beasts, .ref h13, .ref r1_looks, .int s1_high, .int s1_low])), (h13, .inr (7, [.int (5 : Int32), .int (3 : Int32), .ref h14, .int s1_checks_size])), (h14, .inl (cI, 15, .inl s1_checks_cells))] := hB.2
        obtain ⟨hP, hD⟩ := jn (wr := [(h2, .inl (cI, 5, .inl s_gains)), (h4, .inl (cT, 6, .inr (.inr (.inr (.inr (kd h5 h6 h7 h8 h9 h10)))))), (h5, .inr (9, [])), (h6, .inr (4, [])), (h7, .inr (10, [])), (h8, .inr (2, [])), (h9, .inr (1, [])), (h10, .inr (0, [])), (h11, .inr (7, [.int (12 : Int32), .int (6 : Int32), .ref h12, .int s1_passers_size])), (h12, .inl (cI, 72, .inl s1_passers_cells))]) (ws' := [(h0, .inr (3, [.ref h1, .ref h2, .int s_men, .int s_goal_8, .int s_goalMen_8])), (h1, .inl (cI, 620, .inl s_fewest)), (h2, .inl (cI, 5, .inl s_gains)), (h3, .inr (5, [.ref h4, .ref h11, .ref r1_beasts, .ref h13, .ref r1_looks, .int s1_high, .int s1_low])), (h4, .inl (cT, 6, .inr (.inr (.inr (.inr (kd h5 h6 h7 h8 h9 h10)))))), (h5, .inr (9, [])), (h6, .inr (4, [])), (h7, .inr (10, [])), (h8, .inr (2, [])), (h9, .inr (1, [])), (h10, .inr (0, [])), (h11, .inr (7, [.int (12 : Int32), .int (6 : Int32), .ref h12, .int s1_passers_size])), (h12, .inl (cI, 72, .inl s1_passers_cells)), (h13, .inr (7, [.int (5 : Int32), .int (3 : Int32), .ref h14, .int s1_checks_size])), (h14, .inl (cI, 15, .inl s1_checks_cells))]) hP hD [0, 1, 3, 13, 14] [2, 4, 5, 6, 7, 8, 9, 10, 11, 12] rfl rfl (by decide) (by decide) hk1 hFc hP1 hD1 [10, 11, 0, 12, 1, 2, 3, 4, 5, 6, 7, 8, 9, 13, 14] (by decide) rfl
        clear hP1 hD1 hB hk1 hz1 hvm ht hPc hDc hFc
        generalize H1 = H at hP hS ⊢
        try dsimp only at hf
        refine lv_aload_n hx hb dX3_follow_59 rfl (lv_at hl 1 rfl) ?_
        refine va_get (D := (dC, dI)) (ci := 3) (v := .ref h2) (C := RX3) (T := TX3) (N := 5) hx hb hts iX3_follow_X3 hown hK hP 0 rfl rfl 1 (by decide) (hts _ mX3_follow_f15) (fun _ h9 => h9) rfl dX3_follow_60 ?_
        refine lv_iload_n hx hb dX3_follow_63 rfl (lv_at hl 4 rfl) ?_
        refine lv_aload_n hx hb dX3_follow_64 rfl (lv_at hl 1 rfl) ?_
        refine va_get (D := (dC, dI)) (ci := 3) (v := .int s_goal_8) (C := RX3) (T := TX3) (N := 5) hx hb hts iX3_follow_X3 hown hK hP 0 rfl rfl 3 (by decide) (hts _ mX3_follow_f22) (fun _ h9 => h9) rfl dX3_follow_65 ?_
        refine lv_iload hx hb dX3_follow_68 (lv_at hl 0 rfl) ?_
        have hPc := hP.sub (ws' := []) [] rfl
        refine ro_calli (va_runSN (As := [.int r_7]) (rest := [.int s_goal_8, .int x3, .ref h2]) ⟨hx, hb, hml, hown, hts⟩ (metX11_highOf hf) ⟨va_cnB 1 hts gX3_follow_X11_highOf_n63 rfl rfl rfl (hN _ nwm_6) (hts _ mX3_follow_iX11) kX11_highOf ⟨Nat.le_of_ble_eq_true rfl, Nat.le_of_ble_eq_true rfl⟩, hts _ mX3_follow_sX11_highOf, trivial⟩ ⟨PW.blind, fun U hU hW => ⟨rfl, PW.go hU hW hPc hK hN⟩⟩ rfl rfl hl.1 rfl (lv_room (Nat.le_of_ble_eq_true rfl)) dX3_follow_70 ⟨Nat.zero_le _, Nat.zero_le _⟩) (fun r_9 hf => ?_)
        refine lv_isub hx hb dX3_follow_73 ?_
        obtain ⟨h_10, hf⟩ := hf
        refine va_iast hx hb hK hP hD hS 2 0 rfl rfl h_10 dX3_follow_74 (fun H locs hP hD hS => ?_)
        replace hP : va_P (dC, dI) vwCl [(h0, .inr (3, [.ref h1, .ref h2, .int s_men, .int s_goal_8, .int s_goalMen_8])), (h1, .inl (cI, 620, .inl s_fewest)), (h2, .inl (cI, 5, .inl (upd s_gains x3.toNatClampNeg (s_goal_8 - r_9)))), (h3, .inr (5, [.ref h4, .ref h11, .ref r1_beasts, .ref h13, .ref r1_looks, .int s1_high, .int s1_low])), (h4, .inl (cT, 6, .inr (.inr (.inr (.inr (kd h5 h6 h7 h8 h9 h10)))))), (h5, .inr (9, [])), (h6, .inr (4, [])), (h7, .inr (10, [])), (h8, .inr (2, [])), (h9, .inr (1, [])), (h10, .inr (0, [])), (h11, .inr (7, [.int (12 : Int32), .int (6 : Int32), .ref h12, .int s1_passers_size])), (h12, .inl (cI, 72, .inl s1_passers_cells)), (h13, .inr (7, [.int (5 : Int32), .int (3 : Int32), .ref h14, .int s1_checks_size])), (h14, .inl (cI, 15, .inl s1_checks_cells))] H := hP
        replace hD : va_D A [(h0, .inr (3, [.ref h1, .ref h2, .int s_men, .int s_goal_8, .int s_goalMen_8])), (h1, .inl (cI, 620, .inl s_fewest)), (h2, .inl (cI, 5, .inl (upd s_gains x3.toNatClampNeg (s_goal_8 - r_9)))), (h3, .inr (5, [.ref h4, .ref h11, .ref r1_beasts, .ref h13, .ref r1_looks, .int s1_high, .int s1_low])), (h4, .inl (cT, 6, .inr (.inr (.inr (.inr (kd h5 h6 h7 h8 h9 h10)))))), (h5, .inr (9, [])), (h6, .inr (4, [])), (h7, .inr (10, [])), (h8, .inr (2, [])), (h9, .inr (1, [])), (h10, .inr (0, [])), (h11, .inr (7, [.int (12 : Int32), .int (6 : Int32), .ref h12, .int s1_passers_size])), (h12, .inl (cI, 72, .inl s1_passers_cells)), (h13, .inr (7, [.int (5 : Int32), .int (3 : Int32), .ref h14, .int s1_checks_size])), (h14, .inl (cI, 15, .inl s1_checks_cells))] := hD
        refine lv_aload_n hx hb dX3_follow_75 rfl (lv_at hl 1 rfl) ?_
        refine lv_dup hx hb dX3_follow_76 rfl ?_
        refine va_get (D := (dC, dI)) (ci := 3) (v := .int s_men) (C := RX3) (T := TX3) (N := 5) hx hb hts iX3_follow_X3 hown hK hP 0 rfl rfl 2 (by decide) (hts _ mX3_follow_f18) (fun _ h9 => h9) rfl dX3_follow_77 ?_
        refine lv_aload_n hx hb dX3_follow_80 rfl (lv_at hl 1 rfl) ?_
        refine va_get (D := (dC, dI)) (ci := 3) (v := .ref h2) (C := RX3) (T := TX3) (N := 5) hx hb hts iX3_follow_X3 hown hK hP 0 rfl rfl 1 (by decide) (hts _ mX3_follow_f15) (fun _ h9 => h9) rfl dX3_follow_81 ?_
        refine lv_iload_n hx hb dX3_follow_84 rfl (lv_at hl 4 rfl) ?_
        obtain ⟨h_11, hf⟩ := hf
        refine va_iald hx hb hK hP 2 0 rfl rfl h_11 dX3_follow_85 ?_
        refine va_mabs hx hb (hml.trans hl.1.symm) hown (hts _ mX3_follow_c67) (hts _ mX3_follow_sabs) (hts _ mX3_follow_iMath) (hts _ mX3_follow_kabs) (Nat.le_of_ble_eq_true rfl) (Nat.le_of_ble_eq_true rfl) (Nat.zero_le _) (Nat.zero_le _) dX3_follow_86 ?_
        refine W.eq (g2 := F0 m 89 ls [.int (mabs ((upd s_gains x3.toNatClampNeg (s_goal_8 - r_9)) x3.toNatClampNeg)), .int s_men, .ref h0]) rfl ?_
        refine lv_iadd hx hb dX3_follow_89 ?_
        refine va_put (D := (dC, dI)) (ci := 3) (v := .int (s_men + (mabs ((upd s_gains x3.toNatClampNeg (s_goal_8 - r_9)) x3.toNatClampNeg)))) (ty := .int) (C := RX3) (T := TX3) (N := 5) hx hb hts iX3_follow_X3 tyX3 tyX3_ok nmX3 hown hK hP hD hS 0 rfl rfl 2 (by decide) (hts _ mX3_follow_f18) (fun _ h9 => h9) rfl (by decide +kernel) rfl rfl (Nat.le_of_ble_eq_true rfl) dX3_follow_90 (fun H locs hP hD hS => ?_)
        replace hP : va_P (dC, dI) vwCl [(h0, .inr (3, [.ref h1, .ref h2, .int (s_men + (mabs ((upd s_gains x3.toNatClampNeg (s_goal_8 - r_9)) x3.toNatClampNeg))), .int s_goal_8, .int s_goalMen_8])), (h1, .inl (cI, 620, .inl s_fewest)), (h2, .inl (cI, 5, .inl (upd s_gains x3.toNatClampNeg (s_goal_8 - r_9)))), (h3, .inr (5, [.ref h4, .ref h11, .ref r1_beasts, .ref h13, .ref r1_looks, .int s1_high, .int s1_low])), (h4, .inl (cT, 6, .inr (.inr (.inr (.inr (kd h5 h6 h7 h8 h9 h10)))))), (h5, .inr (9, [])), (h6, .inr (4, [])), (h7, .inr (10, [])), (h8, .inr (2, [])), (h9, .inr (1, [])), (h10, .inr (0, [])), (h11, .inr (7, [.int (12 : Int32), .int (6 : Int32), .ref h12, .int s1_passers_size])), (h12, .inl (cI, 72, .inl s1_passers_cells)), (h13, .inr (7, [.int (5 : Int32), .int (3 : Int32), .ref h14, .int s1_checks_size])), (h14, .inl (cI, 15, .inl s1_checks_cells))] H := hP
        replace hD : va_D A [(h0, .inr (3, [.ref h1, .ref h2, .int (s_men + (mabs ((upd s_gains x3.toNatClampNeg (s_goal_8 - r_9)) x3.toNatClampNeg))), .int s_goal_8, .int s_goalMen_8])), (h1, .inl (cI, 620, .inl s_fewest)), (h2, .inl (cI, 5, .inl (upd s_gains x3.toNatClampNeg (s_goal_8 - r_9)))), (h3, .inr (5, [.ref h4, .ref h11, .ref r1_beasts, .ref h13, .ref r1_looks, .int s1_high, .int s1_low])), (h4, .inl (cT, 6, .inr (.inr (.inr (.inr (kd h5 h6 h7 h8 h9 h10)))))), (h5, .inr (9, [])), (h6, .inr (4, [])), (h7, .inr (10, [])), (h8, .inr (2, [])), (h9, .inr (1, [])), (h10, .inr (0, [])), (h11, .inr (7, [.int (12 : Int32), .int (6 : Int32), .ref h12, .int s1_passers_size])), (h12, .inl (cI, 72, .inl s1_passers_cells)), (h13, .inr (7, [.int (5 : Int32), .int (3 : Int32), .ref h14, .int s1_checks_size])), (h14, .inl (cI, 15, .inl s1_checks_cells))] := hD
        refine lv_aload_n hx hb dX3_follow_93 rfl (lv_at hl 1 rfl) ?_
        refine va_get (D := (dC, dI)) (ci := 3) (v := .int s_goal_8) (C := RX3) (T := TX3) (N := 5) hx hb hts iX3_follow_X3 hown hK hP 0 rfl rfl 3 (by decide) (hts _ mX3_follow_f22) (fun _ h9 => h9) rfl dX3_follow_94 ?_
        refine lv_iload hx hb dX3_follow_97 (lv_at hl 0 rfl) ?_
        have hPc := hP.sub (ws' := []) [] rfl
        refine ro_calli (va_runSN (As := [.int r_7]) (rest := [.int s_goal_8]) ⟨hx, hb, hml, hown, hts⟩ (metX11_didOf hf) ⟨va_cnB 1 hts gX3_follow_X11_didOf_n72 rfl rfl rfl (hN _ nwm_7) (hts _ mX3_follow_iX11) kX11_didOf ⟨Nat.le_of_ble_eq_true rfl, Nat.le_of_ble_eq_true rfl⟩, hts _ mX3_follow_sX11_didOf, trivial⟩ ⟨PW.blind, fun U hU hW => ⟨rfl, PW.go hU hW hPc hK hN⟩⟩ rfl rfl hl.1 rfl (lv_room (Nat.le_of_ble_eq_true rfl)) dX3_follow_99 ⟨Nat.zero_le _, Nat.zero_le _⟩) (fun r_12 hf => ?_)
        have hPc := hP.sub (ws' := []) [] rfl
        refine ro_calli (va_runSN (As := [.int s_goal_8, .int r_12]) (rest := []) ⟨hx, hb, hml, hown, hts⟩ (metX11_stand hf) ⟨va_cnB 2 hts gX3_follow_X11_stand_n75 rfl rfl rfl (hN _ nwm_8) (hts _ mX3_follow_iX11) kX11_stand ⟨Nat.le_of_ble_eq_true rfl, Nat.le_of_ble_eq_true rfl⟩, hts _ mX3_follow_sX11_stand, trivial⟩ ⟨PW.blind, fun U hU hW => ⟨rfl, PW.go hU hW hPc hK hN⟩⟩ rfl rfl hl.1 rfl (lv_room (Nat.le_of_ble_eq_true rfl)) dX3_follow_102 ⟨Nat.zero_le _, Nat.zero_le _⟩) (fun r_13 hf => ?_)
        refine lv_istore_n (lv' := [(2, .int r_13), (4, .int r_7), (0, .ref h0), (1, .ref h3), (3, .int x3)]) hx hb dX3_follow_105 rfl hl (by decide) rfl (fun ls hl => ?_)
        refine lv_iinc (v := (x3 + 1)) (lv' := [(3, .int (x3 + 1)), (2, .int r_13), (4, .int r_7), (0, .ref h0), (1, .ref h3)]) hx hb dX3_follow_106 hl (k := 4) rfl (by rfl) (by decide) rfl (fun ls hl => ?_)
        refine lv_goto (tgt := 12) hx hb dX3_follow_109 (by decide) ?_
        exact ih r_13 (x3 + 1) (s_men + (mabs ((upd s_gains x3.toNatClampNeg (s_goal_8 - r_9)) x3.toNatClampNeg))) s_goal_8 s_goalMen_8 (upd s_gains x3.toNatClampNeg (s_goal_8 - r_9)) H locs ls hP hD hS (lv_sub hl [3, 4, 1, 0] rfl) hf
set_option maxHeartbeats 4000000 in
set_option maxRecDepth 100000 in
theorem metX3_follow {h0 h1 h2 h3 r1_beasts r1_looks h4 h5 h6 h7 h8 h9 h10 h11 h12 h13 h14 : Nat} {s_men s_goal s_goalMen s1_high s1_low s1_passers_size s1_checks_size : Int32} {s_fewest s_gains s1_passers_cells s1_checks_cells : Nat → Int32}  {sz : Nat} {k : Int32 → Int32 → Int32 → (Nat → Int32) → Prop} (hf : pX3_follow s_men s_goal s_goalMen s_fewest s_gains s1_high s1_passers_size s1_passers_cells s1_checks_size s1_checks_cells k) : Met l yX3_follow wsX3_follow ({ frames := 5, cells := 0, slots := 0, locals := 123 } : Room) (va_Pc [.ref h0, .ref h3] (PR dC dI (TYS cI cL cB cZ cT cR) [(h0, .inr (3, [.ref h1, .ref h2, .int s_men, .int s_goal, .int s_goalMen])), (h1, .inl (cI, 620, .inl s_fewest)), (h2, .inl (cI, 5, .inl s_gains)), (h3, .inr (5, [.ref h4, .ref h11, .ref r1_beasts, .ref h13, .ref r1_looks, .int s1_high, .int s1_low])), (h4, .inl (cT, 6, .inr (.inr (.inr (.inr (kd h5 h6 h7 h8 h9 h10)))))), (h5, .inr (9, [])), (h6, .inr (4, [])), (h7, .inr (10, [])), (h8, .inr (2, [])), (h9, .inr (1, [])), (h10, .inr (0, [])), (h11, .inr (7, [.int (12 : Int32), .int (6 : Int32), .ref h12, .int s1_passers_size])), (h12, .inl (cI, 72, .inl s1_passers_cells)), (h13, .inr (7, [.int (5 : Int32), .int (3 : Int32), .ref h14, .int s1_checks_size])), (h14, .inl (cI, 15, .inl s1_checks_cells))] sz)) (va_Qv (fun (u : Int32 × Int32 × Int32 × (Nat → Int32)) => k u.1 u.2.1 u.2.2.1 u.2.2.2) (fun (u : Int32 × Int32 × Int32 × (Nat → Int32)) t => va_P (dC, dI) vwCl [(h0, .inr (3, [.ref h1, .ref h2, .int u.1, .int u.2.1, .int u.2.2.1])), (h1, .inl (cI, 620, .inl s_fewest)), (h2, .inl (cI, 5, .inl u.2.2.2)), (h3, .inr (5, [.ref h4, .ref h11, .ref r1_beasts, .ref h13, .ref r1_looks, .int s1_high, .int s1_low])), (h4, .inl (cT, 6, .inr (.inr (.inr (.inr (kd h5 h6 h7 h8 h9 h10)))))), (h5, .inr (9, [])), (h6, .inr (4, [])), (h7, .inr (10, [])), (h8, .inr (2, [])), (h9, .inr (1, [])), (h10, .inr (0, [])), (h11, .inr (7, [.int (12 : Int32), .int (6 : Int32), .ref h12, .int s1_passers_size])), (h12, .inl (cI, 72, .inl s1_passers_cells)), (h13, .inr (7, [.int (5 : Int32), .int (3 : Int32), .ref h14, .int s1_checks_size])), (h14, .inl (cI, 15, .inl s1_checks_cells))] t.heap ∧ va_D (va_A [(h0, .inr (3, [.ref h1, .ref h2, .int s_men, .int s_goal, .int s_goalMen])), (h1, .inl (cI, 620, .inl s_fewest)), (h2, .inl (cI, 5, .inl s_gains)), (h3, .inr (5, [.ref h4, .ref h11, .ref r1_beasts, .ref h13, .ref r1_looks, .int s1_high, .int s1_low])), (h4, .inl (cT, 6, .inr (.inr (.inr (.inr (kd h5 h6 h7 h8 h9 h10)))))), (h5, .inr (9, [])), (h6, .inr (4, [])), (h7, .inr (10, [])), (h8, .inr (2, [])), (h9, .inr (1, [])), (h10, .inr (0, [])), (h11, .inr (7, [.int (12 : Int32), .int (6 : Int32), .ref h12, .int s1_passers_size])), (h12, .inl (cI, 72, .inl s1_passers_cells)), (h13, .inr (7, [.int (5 : Int32), .int (3 : Int32), .ref h14, .int s1_checks_size])), (h14, .inl (cI, 15, .inl s1_checks_cells))] sz) [(h0, .inr (3, [.ref h1, .ref h2, .int u.1, .int u.2.1, .int u.2.2.1])), (h1, .inl (cI, 620, .inl s_fewest)), (h2, .inl (cI, 5, .inl u.2.2.2)), (h3, .inr (5, [.ref h4, .ref h11, .ref r1_beasts, .ref h13, .ref r1_looks, .int s1_high, .int s1_low])), (h4, .inl (cT, 6, .inr (.inr (.inr (.inr (kd h5 h6 h7 h8 h9 h10)))))), (h5, .inr (9, [])), (h6, .inr (4, [])), (h7, .inr (10, [])), (h8, .inr (2, [])), (h9, .inr (1, [])), (h10, .inr (0, [])), (h11, .inr (7, [.int (12 : Int32), .int (6 : Int32), .ref h12, .int s1_passers_size])), (h12, .inl (cI, 72, .inl s1_passers_cells)), (h13, .inr (7, [.int (5 : Int32), .int (3 : Int32), .ref h14, .int s1_checks_size])), (h14, .inl (cI, 15, .inl s1_checks_cells))]) (va_A [(h0, .inr (3, [.ref h1, .ref h2, .int s_men, .int s_goal, .int s_goalMen])), (h1, .inl (cI, 620, .inl s_fewest)), (h2, .inl (cI, 5, .inl s_gains)), (h3, .inr (5, [.ref h4, .ref h11, .ref r1_beasts, .ref h13, .ref r1_looks, .int s1_high, .int s1_low])), (h4, .inl (cT, 6, .inr (.inr (.inr (.inr (kd h5 h6 h7 h8 h9 h10)))))), (h5, .inr (9, [])), (h6, .inr (4, [])), (h7, .inr (10, [])), (h8, .inr (2, [])), (h9, .inr (1, [])), (h10, .inr (0, [])), (h11, .inr (7, [.int (12 : Int32), .int (6 : Int32), .ref h12, .int s1_passers_size])), (h12, .inl (cI, 72, .inl s1_passers_cells)), (h13, .inr (7, [.int (5 : Int32), .int (3 : Int32), .ref h14, .int s1_checks_size])), (h14, .inl (cI, 15, .inl s1_checks_cells))] sz)) 0 0 (va_A [(h0, .inr (3, [.ref h1, .ref h2, .int s_men, .int s_goal, .int s_goalMen])), (h1, .inl (cI, 620, .inl s_fewest)), (h2, .inl (cI, 5, .inl s_gains)), (h3, .inr (5, [.ref h4, .ref h11, .ref r1_beasts, .ref h13, .ref r1_looks, .int s1_high, .int s1_low])), (h4, .inl (cT, 6, .inr (.inr (.inr (.inr (kd h5 h6 h7 h8 h9 h10)))))), (h5, .inr (9, [])), (h6, .inr (4, [])), (h7, .inr (10, [])), (h8, .inr (2, [])), (h9, .inr (1, [])), (h10, .inr (0, [])), (h11, .inr (7, [.int (12 : Int32), .int (6 : Int32), .ref h12, .int s1_passers_size])), (h12, .inl (cI, 72, .inl s1_passers_cells)), (h13, .inr (7, [.int (5 : Int32), .int (3 : Int32), .ref h14, .int s1_checks_size])), (h14, .inl (cI, 15, .inl s1_checks_cells))] sz) := by
  refine Met.ofW (cc := cX3_follow) (maxL := 5) (ret := none) (by decide) rfl ?_
  intro p e s m args below meth c s₁ B hml hv
  obtain ⟨rfl, hsz, hP, hK, hN, hD0⟩ := hv
  have C : CX p s m _ meth c cX3_follow 5 wsX3_follow RX3 none := ⟨B.exec, B.bytes, hml, findClass_of_methodNamed B.named, atoms_spec (ws := wsX3_follow) B.pre, B.returns, B.notSynchronized⟩
  obtain ⟨hx, hb, -, hown, hts, hr, hlocks⟩ := id C
  subst hsz
  have hD := hD0.self (sz := s.heap.size)
  generalize hAe : va_A [(h0, .inr (3, [.ref h1, .ref h2, .int s_men, .int s_goal, .int s_goalMen])), (h1, .inl (cI, 620, .inl s_fewest)), (h2, .inl (cI, 5, .inl s_gains)), (h3, .inr (5, [.ref h4, .ref h11, .ref r1_beasts, .ref h13, .ref r1_looks, .int s1_high, .int s1_low])), (h4, .inl (cT, 6, .inr (.inr (.inr (.inr (kd h5 h6 h7 h8 h9 h10)))))), (h5, .inr (9, [])), (h6, .inr (4, [])), (h7, .inr (10, [])), (h8, .inr (2, [])), (h9, .inr (1, [])), (h10, .inr (0, [])), (h11, .inr (7, [.int (12 : Int32), .int (6 : Int32), .ref h12, .int s1_passers_size])), (h12, .inl (cI, 72, .inl s1_passers_cells)), (h13, .inr (7, [.int (5 : Int32), .int (3 : Int32), .ref h14, .int s1_checks_size])), (h14, .inl (cI, 15, .inl s1_checks_cells))] s.heap.size = A at hD ⊢
  have hA : ∀ q : Nat, s.heap.size ≤ q → A q := fun q h => by rw [← hAe]; exact Or.inr h
  have hS : va_S A s.heap s.heap [] := va_S.rf
  have hl := lv_entry ([.ref h0, .ref h3]) (n := 5) (Nat.le_of_ble_eq_true rfl)
  rw [lg_entry_eq]
  generalize (lg_sl ([.ref h0, .ref h3]) ++ List.replicate (5 - (lg_sl ([.ref h0, .ref h3])).length) Slot.unset).toArray = ls at hl ⊢
  have hl : lv_has ls 5 [(0, .ref h0), (1, .ref h3)] := hl
  unfold pX3_follow at hf
  obtain ⟨H, hH⟩ : ∃ H, H = s.heap := ⟨_, rfl⟩
  obtain ⟨locs, hlo⟩ : ∃ L : List Loc, L = [] := ⟨_, rfl⟩
  have hS : va_S A s.heap H locs := by rw [hH, hlo]; exact hS
  rw [← hH] at hP
  have hG : W p l e ({ frames := 5, cells := 0, slots := 0, locals := 123 } : Room) s m [.ref h0, .ref h3].toArray below meth c H locs 0 0 (MQ below (va_Qv (fun (u : Int32 × Int32 × Int32 × (Nat → Int32)) => k u.1 u.2.1 u.2.2.1 u.2.2.2) (fun (u : Int32 × Int32 × Int32 × (Nat → Int32)) t => va_P (dC, dI) vwCl [(h0, .inr (3, [.ref h1, .ref h2, .int u.1, .int u.2.1, .int u.2.2.1])), (h1, .inl (cI, 620, .inl s_fewest)), (h2, .inl (cI, 5, .inl u.2.2.2)), (h3, .inr (5, [.ref h4, .ref h11, .ref r1_beasts, .ref h13, .ref r1_looks, .int s1_high, .int s1_low])), (h4, .inl (cT, 6, .inr (.inr (.inr (.inr (kd h5 h6 h7 h8 h9 h10)))))), (h5, .inr (9, [])), (h6, .inr (4, [])), (h7, .inr (10, [])), (h8, .inr (2, [])), (h9, .inr (1, [])), (h10, .inr (0, [])), (h11, .inr (7, [.int (12 : Int32), .int (6 : Int32), .ref h12, .int s1_passers_size])), (h12, .inl (cI, 72, .inl s1_passers_cells)), (h13, .inr (7, [.int (5 : Int32), .int (3 : Int32), .ref h14, .int s1_checks_size])), (h14, .inl (cI, 15, .inl s1_checks_cells))] t.heap ∧ va_D A [(h0, .inr (3, [.ref h1, .ref h2, .int u.1, .int u.2.1, .int u.2.2.1])), (h1, .inl (cI, 620, .inl s_fewest)), (h2, .inl (cI, 5, .inl u.2.2.2)), (h3, .inr (5, [.ref h4, .ref h11, .ref r1_beasts, .ref h13, .ref r1_looks, .int s1_high, .int s1_low])), (h4, .inl (cT, 6, .inr (.inr (.inr (.inr (kd h5 h6 h7 h8 h9 h10)))))), (h5, .inr (9, [])), (h6, .inr (4, [])), (h7, .inr (10, [])), (h8, .inr (2, [])), (h9, .inr (1, [])), (h10, .inr (0, [])), (h11, .inr (7, [.int (12 : Int32), .int (6 : Int32), .ref h12, .int s1_passers_size])), (h12, .inl (cI, 72, .inl s1_passers_cells)), (h13, .inr (7, [.int (5 : Int32), .int (3 : Int32), .ref h14, .int s1_checks_size])), (h14, .inl (cI, 15, .inl s1_checks_cells))]) A) [.ref h0, .ref h3].toArray s 0 0 A) (F0 m 0 ls []) := by
    clear hlo hH hD0
    refine lv_aload_n hx hb dX3_follow_0 rfl (lv_at hl 1 rfl) ?_
    have hPc := hP.sub (ws' := [(h3, .inr (5, [.ref h4, .ref h11, .ref r1_beasts, .ref h13, .ref r1_looks, .int s1_high, .int s1_low]))]) [3] rfl
    refine ro_calli (va_runV (As := []) (rest := []) ⟨hx, hb, hml, hown, hts⟩ (metX5_firstStand hf) (cwV 0 hts gX3_follow_X5_firstStand rfl rfl rfl ⟨rfl, kX5_firstStand⟩ ⟨Nat.le_of_ble_eq_true rfl, Nat.le_of_ble_eq_true rfl⟩) ⟨PW.blind, va_recv hK hPc (ci := 5) (q0 := 0) rfl rfl, fun U hU hW => ⟨rfl, PW.go hU hW hPc hK hN⟩⟩ rfl rfl hl.1 rfl (lv_room (Nat.le_of_ble_eq_true rfl)) dX3_follow_1 ⟨Nat.zero_le _, Nat.zero_le _⟩) (fun r_1 hf => ?_)
    refine lv_istore_n (lv' := [(2, .int r_1), (0, .ref h0), (1, .ref h3)]) hx hb dX3_follow_4 rfl hl (by decide) rfl (fun ls hl => ?_)
    refine lv_aload_n hx hb dX3_follow_5 rfl (lv_at hl 1 rfl) ?_
    refine lv_iconst (v := (0 : Int32)) hx hb dX3_follow_6 (by decide) ?_
    refine va_put (D := (dC, dI)) (ci := 3) (v := .int (0 : Int32)) (ty := .int) (C := RX3) (T := TX3) (N := 5) hx hb hts iX3_follow_X3 tyX3 tyX3_ok nmX3 hown hK hP hD hS 0 rfl rfl 2 (by decide) (hts _ mX3_follow_f18) (fun _ h9 => h9) rfl (by decide +kernel) rfl rfl (Nat.le_of_ble_eq_true rfl) dX3_follow_7 (fun H locs hP hD hS => ?_)
    replace hP : va_P (dC, dI) vwCl [(h0, .inr (3, [.ref h1, .ref h2, .int (0 : Int32), .int s_goal, .int s_goalMen])), (h1, .inl (cI, 620, .inl s_fewest)), (h2, .inl (cI, 5, .inl s_gains)), (h3, .inr (5, [.ref h4, .ref h11, .ref r1_beasts, .ref h13, .ref r1_looks, .int s1_high, .int s1_low])), (h4, .inl (cT, 6, .inr (.inr (.inr (.inr (kd h5 h6 h7 h8 h9 h10)))))), (h5, .inr (9, [])), (h6, .inr (4, [])), (h7, .inr (10, [])), (h8, .inr (2, [])), (h9, .inr (1, [])), (h10, .inr (0, [])), (h11, .inr (7, [.int (12 : Int32), .int (6 : Int32), .ref h12, .int s1_passers_size])), (h12, .inl (cI, 72, .inl s1_passers_cells)), (h13, .inr (7, [.int (5 : Int32), .int (3 : Int32), .ref h14, .int s1_checks_size])), (h14, .inl (cI, 15, .inl s1_checks_cells))] H := hP
    replace hD : va_D A [(h0, .inr (3, [.ref h1, .ref h2, .int (0 : Int32), .int s_goal, .int s_goalMen])), (h1, .inl (cI, 620, .inl s_fewest)), (h2, .inl (cI, 5, .inl s_gains)), (h3, .inr (5, [.ref h4, .ref h11, .ref r1_beasts, .ref h13, .ref r1_looks, .int s1_high, .int s1_low])), (h4, .inl (cT, 6, .inr (.inr (.inr (.inr (kd h5 h6 h7 h8 h9 h10)))))), (h5, .inr (9, [])), (h6, .inr (4, [])), (h7, .inr (10, [])), (h8, .inr (2, [])), (h9, .inr (1, [])), (h10, .inr (0, [])), (h11, .inr (7, [.int (12 : Int32), .int (6 : Int32), .ref h12, .int s1_passers_size])), (h12, .inl (cI, 72, .inl s1_passers_cells)), (h13, .inr (7, [.int (5 : Int32), .int (3 : Int32), .ref h14, .int s1_checks_size])), (h14, .inl (cI, 15, .inl s1_checks_cells))] := hD
    refine lv_iconst (v := (0 : Int32)) hx hb dX3_follow_10 (by decide) ?_
    refine lv_istore_n (lv' := [(3, .int (0 : Int32)), (2, .int r_1), (0, .ref h0), (1, .ref h3)]) hx hb dX3_follow_11 rfl hl (by decide) rfl (fun ls hl => ?_)
    obtain ⟨n12, hf⟩ := hf
    refine wX3_follow_12 C hK hN hA (fun s_men_14 s_goal_14 s_goalMen_14 s_gains_14 H locs ls hP hD hS hl hf => ?_) n12 r_1 (0 : Int32) (0 : Int32) s_goal s_goalMen s_gains H locs ls hP hD hS (lv_sub hl [2, 3, 1, 0] rfl) hf
    exact W.vret hx hb hr (fun t ht hW => ⟨⟨(s_men_14, s_goal_14, s_goalMen_14, s_gains_14), rfl, hf, by rw [ht]; exact hP, hD⟩, hS.F ht⟩) hS.2.2 dX3_follow_112
  rw [hH, hlo] at hG
  exact hG
set_option maxHeartbeats 4000000 in
set_option maxRecDepth 100000 in
theorem metX3_gainAt {h0 r_fewest h1 : Nat} {s_men s_goal s_goalMen : Int32} {s_gains : Nat → Int32} {a1 : Int32} {k : Int32 → Prop} (hf : pX3_gainAt s_gains a1 k) : Met l yX3_gainAt wsX3_gainAt ({ frames := 0, cells := 0, slots := 0, locals := 0 } : Room) (va_Pc [.ref h0, .int a1] (PW dC dI (TYS cI cL cB cZ cT cR) [(h0, .inr (3, [.ref r_fewest, .ref h1, .int s_men, .int s_goal, .int s_goalMen])), (h1, .inl (cI, 5, .inl s_gains))])) (roQi k) 0 0 (fun _ => False) := by
  refine Met.ofW (cc := cX3_gainAt) (maxL := 2) (ret := (some .int)) (by decide) rfl ?_
  intro p e s m args below meth c s₁ B hml hv
  obtain ⟨rfl, hP, hK, hN⟩ := hv
  have C : CX p s m _ meth c cX3_gainAt 2 wsX3_gainAt RX3 (some .int) := ⟨B.exec, B.bytes, hml, findClass_of_methodNamed B.named, atoms_spec (ws := wsX3_gainAt) B.pre, B.returns, B.notSynchronized⟩
  obtain ⟨hx, hb, -, hown, hts, hr, hlocks⟩ := id C
  have hl := lv_entry ([.ref h0, .int a1]) (n := 2) (Nat.le_of_ble_eq_true rfl)
  rw [lg_entry_eq]
  generalize (lg_sl ([.ref h0, .int a1]) ++ List.replicate (2 - (lg_sl ([.ref h0, .int a1])).length) Slot.unset).toArray = ls at hl ⊢
  have hl : lv_has ls 2 [(0, .ref h0), (1, .int a1)] := hl
  unfold pX3_gainAt at hf
  refine lv_iload_n hx hb dX3_gainAt_0 rfl (lv_at hl 1 rfl) ?_
  refine lv_if_lt (tgt := 22) hx hb dX3_gainAt_1 (by decide) (fun c_1 => ?_) (fun c_1 => ?_)
  · replace hf := hf.1 c_1
    refine lv_iconst (v := (0 : Int32)) hx hb dX3_gainAt_22 (by decide) ?_
    exact W.iret (v := (0 : Int32)) hx hb hr (fun t ht hW => ⟨(0 : Int32), rfl, hf, ht⟩) (fun q h => by cases h) dX3_gainAt_23
  · replace hf := hf.2 c_1
    refine lv_iload_n hx hb dX3_gainAt_4 rfl (lv_at hl 1 rfl) ?_
    refine lv_aload_n hx hb dX3_gainAt_5 rfl (lv_at hl 0 rfl) ?_
    refine va_get (D := (dC, dI)) (ci := 3) (v := .ref h1) (C := RX3) (T := TX3) (N := 5) hx hb hts iX3_gainAt_X3 hown hK hP 0 rfl rfl 1 (by decide) (hts _ mX3_gainAt_f15) (fun _ h9 => h9) rfl dX3_gainAt_6 ?_
    refine va_alen (v := (5 : Int32)) hx hb hK hP 1 0 rfl rfl rfl dX3_gainAt_9 ?_
    refine lv_icmp_ge (tgt := 22) hx hb dX3_gainAt_10 (by decide) (fun c_2 => ?_) (fun c_2 => ?_)
    · replace hf := hf.1 c_2
      refine lv_iconst (v := (0 : Int32)) hx hb dX3_gainAt_22 (by decide) ?_
      exact W.iret (v := (0 : Int32)) hx hb hr (fun t ht hW => ⟨(0 : Int32), rfl, hf, ht⟩) (fun q h => by cases h) dX3_gainAt_23
    · replace hf := hf.2 c_2
      refine lv_aload_n hx hb dX3_gainAt_13 rfl (lv_at hl 0 rfl) ?_
      refine va_get (D := (dC, dI)) (ci := 3) (v := .ref h1) (C := RX3) (T := TX3) (N := 5) hx hb hts iX3_gainAt_X3 hown hK hP 0 rfl rfl 1 (by decide) (hts _ mX3_gainAt_f15) (fun _ h9 => h9) rfl dX3_gainAt_14 ?_
      refine lv_iload_n hx hb dX3_gainAt_17 rfl (lv_at hl 1 rfl) ?_
      obtain ⟨h_3, hf⟩ := hf
      refine va_iald hx hb hK hP 1 0 rfl rfl h_3 dX3_gainAt_18 ?_
      refine lv_goto (tgt := 23) hx hb dX3_gainAt_19 (by decide) ?_
      exact W.iret (v := (s_gains a1.toNatClampNeg)) hx hb hr (fun t ht hW => ⟨(s_gains a1.toNatClampNeg), rfl, hf, ht⟩) (fun q h => by cases h) dX3_gainAt_23
end
