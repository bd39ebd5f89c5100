/-- the six words, and two statics, at places below nb -/
def SF (nb : Nat) (adK adV : Nat → Nat) (U : State) (H : Heap) : Prop := vk_S 6 strLen strByt adK adV (fun q => nb ≤ q) U H ∧ (∀ i, i < 6 → vk_R "PassStones$RoadText" (strCp.getD i 0) (strTx.getD i "") (adK i) U) ∧ va_Z "java/lang/String" "COMPACT_STRINGS" "Z" (.int 1) (fun q => nb ≤ q) U H ∧ va_Zq "jdk/internal/util/Preconditions" "SIOOBE_FORMATTER" "Ljava/util/function/BiFunction;" (fun q => nb ≤ q) U H
theorem SF.go {nb : Nat} {adK adV : Nat → Nat} {s U : State} {H : Heap} (hU : U.heap = H) (hW : s.WarmedH U.vm) (h : SF nb adK adV s H) : SF nb adK adV U U.heap := by
  rw [hU]
  exact ⟨vk_S.moved hW.alike h.1, fun i hi => vk_R.warm hW (h.2.1 i hi), va_Z.moved hW.alike h.2.2.1, va_Zq.moved hW.alike h.2.2.2⟩
theorem SF.keep {nb : Nat} {adK adV : Nat → Nat} {s : State} {H : Heap} {A : Nat → Prop} {locs : List Loc} (h : SF nb adK adV s s.heap) (hS : va_S A s.heap H locs) (hnb : ∀ q, A q → nb ≤ q) : SF nb adK adV s H := by
  have hq : ∀ a : Nat, a < s.heap.size → ¬ (fun q => nb ≤ q) a → H[a]? = s.heap[a]? := fun a h1 h2 => hS.2.1 a h1 (fun z => h2 (hnb a z))
  exact ⟨h.1.kept hq, h.2.1, h.2.2.1.kept hq, h.2.2.2.kept hq⟩
def PWS (dC : Nat → ClassId) (dI : Nat → Nat → Nat) (ty : List (ClassId × FieldType)) (W0 : va_W) (nb : Nat) (adK adV : Nat → Nat) (U : State) : Prop := PW dC dI ty W0 U ∧ SF nb adK adV U U.heap
def PRS (dC : Nat → ClassId) (dI : Nat → Nat → Nat) (ty : List (ClassId × FieldType)) (W0 : va_W) (sz : Nat) (nb : Nat) (adK adV : Nat → Nat) (U : State) : Prop := PR dC dI ty W0 sz U ∧ SF nb adK adV U U.heap ∧ ∀ q, va_A W0 sz q → nb ≤ q
theorem SF.call {nb : Nat} {adK adV : Nat → Nat} {U : State} {g : JFrame} {mk : MethodId} {a : Array Value} (h : SF nb adK adV U U.heap) : SF nb adK adV (U.calling g mk a) (U.calling g mk a).heap :=
  ⟨vk_S.moved (u := U) (U := U.calling g mk a) (Vm.Alike.refl U.vm) h.1, fun i hi => vk_R.same (u := U) (U := U.calling g mk a) rfl (h.2.1 i hi), va_Z.moved (u := U) (U := U.calling g mk a) (Vm.Alike.refl U.vm) h.2.2.1, va_Zq.moved (u := U) (U := U.calling g mk a) (Vm.Alike.refl U.vm) h.2.2.2⟩
theorem PWS.blind {dC : Nat → ClassId} {dI : Nat → Nat → Nat} {ty : List (ClassId × FieldType)} {W0 : va_W} {nb : Nat} {adK adV : Nat → Nat} {av : List Value} : FrameBlind (va_Pc av (PWS dC dI ty W0 nb adK adV)) := fun a U g mk q => by
  obtain ⟨q0, q1, q2⟩ := q
  exact ⟨q0, (PW.blind (av := av) a U g mk ⟨q0, q1⟩).2, q2.call⟩
theorem PRS.blind {dC : Nat → ClassId} {dI : Nat → Nat → Nat} {ty : List (ClassId × FieldType)} {W0 : va_W} {sz nb : Nat} {adK adV : Nat → Nat} {av : List Value} : FrameBlind (va_Pc av (PRS dC dI ty W0 sz nb adK adV)) := fun a U g mk q => by
  obtain ⟨q0, q1, q2, q3⟩ := q
  exact ⟨q0, (PR.blind (av := av) a U g mk ⟨q0, q1⟩).2, q2.call, q3⟩
/-- the end of a method that gives a place and writes nothing -/
def roQr (k : Nat → Prop) : Array Value → State → Outcome → State → Prop := fun _ st oc t => ∃ r : Nat, oc = .returned (some (.ref r)) ∧ k r ∧ t.heap = st.heap
theorem ro_callr {p : Program} {l : Launch} {e : Env} {R : Room} {s : State} {m : MethodId} {args : Array Value} {below : List Frame} {meth : Method} {c : Code} {H : Heap} {locs : List Loc} {cells slots : Nat} {Q : State → Prop} {pc : Nat} {ls : Array Slot} {rest st0 : List Value} {a : Array Value} {k : Nat → Prop} (hr : va_Run p l e R s m args below meth c H locs cells slots 0 0 (F0 m pc ls st0) rest (roQr k a) (fun _ => False)) (kk : ∀ r : Nat, k r → W p l e R s m args below meth c H locs cells slots Q (F0 m (pc + 3) ls (.ref r :: rest))) : W p l e R s m args below meth c H locs cells slots Q (F0 m pc ls st0) := by
  refine W.callX hr.run (fun _ h => h.elim) (fun v st₀ t h0 hq => ?_)
  obtain ⟨r, hv, hk, hh⟩ := hq
  cases hv
  rw [hh, h0]
  exact kk r hk
section
variable {l : Launch} {dC : Nat → ClassId} {dI : Nat → Nat → Nat} {cI cL cB cZ cT cR : ClassId}
set_option maxHeartbeats 4000000 in
set_option maxRecDepth 100000 in
theorem metJ0_coder_7d493 {nb : Nat} {adK adV : Nat → Nat} {i : Nat} (hi : i < 6) {k : Int32 → Prop} (hf : k 0) : Met l yJ0_coder_7d493 wsJ0_coder_7d493 ({ frames := 0, cells := 0, slots := 0, locals := 0 } : Room) (va_Pc [.ref (adK i)] (PWS dC dI (TYS cI cL cB cZ cT cR) [] nb adK adV)) (roQi k) 0 0 (fun _ => False) := by
  refine Met.ofW (cc := cJ0_coder_7d493) (maxL := 1) (ret := (some .byte)) (by decide) rfl ?_
  intro p e s m args below meth c s₁ B hml hv
  obtain ⟨rfl, ⟨hP, hK, hN⟩, hSF⟩ := hv
  have C : CX p s m _ meth c cJ0_coder_7d493 1 wsJ0_coder_7d493 RJ0 (some .byte) := ⟨B.exec, B.bytes, hml, findClass_of_methodNamed B.named, atoms_spec (ws := wsJ0_coder_7d493) B.pre, B.returns, B.notSynchronized⟩
  obtain ⟨hx, hb, -, hown, hts, hr, hlocks⟩ := id C
  have hS : va_S (fun q => nb ≤ q) s.heap s.heap [] := va_S.rf
  have hl := lv_entry ([.ref (adK i)]) (n := 1) (Nat.le_of_ble_eq_true rfl)
  rw [lg_entry_eq]
  generalize (lg_sl ([.ref (adK i)]) ++ List.replicate (1 - (lg_sl ([.ref (adK i)])).length) Slot.unset).toArray = ls at hl ⊢
  have hl : lv_has ls 1 [(0, .ref (adK i))] := hl
  refine va_gets hx hb hSF.2.2.1 hS hown (hts _ (show Cond.fieldLink RJ0 38 "java/lang/String" "COMPACT_STRINGS" "Z" ∈ wsJ0_coder_7d493 by decide +kernel)) (fun _ h9 => h9) dJ0_coder_7d493_0 ?_
  refine lv_if_eq (tgt := 13) hx hb dJ0_coder_7d493_3 (by decide) (fun c_1 => absurd c_1 (by decide)) (fun c_1 => ?_)
  refine lv_aload_n hx hb dJ0_coder_7d493_6 rfl (lv_at hl 0 rfl) ?_
  refine vk_getf hx hb (hSF.1.1 i hi).2.1 hS hown (hts _ (show Cond.fieldLink RJ0 15 "java/lang/String" "coder" "B" ∈ wsJ0_coder_7d493 by decide +kernel)) (fun _ h9 => h9) dJ0_coder_7d493_7 ?_
  refine lv_goto (tgt := 14) hx hb dJ0_coder_7d493_10 (by decide) ?_
  exact W.zret (v := 0) hx hb hr rfl (fun t ht hW => ⟨0, rfl, hf, ht⟩) (fun q h => by cases h) dJ0_coder_7d493_14
set_option maxHeartbeats 4000000 in
set_option maxRecDepth 100000 in
theorem metJ0_isLatin1_aae02 {nb : Nat} {adK adV : Nat → Nat} {i : Nat} (hi : i < 6) {k : Int32 → Prop} (hf : k 1) : Met l yJ0_isLatin1_aae02 wsJ0_isLatin1_aae02 ({ frames := 0, cells := 0, slots := 0, locals := 0 } : Room) (va_Pc [.ref (adK i)] (PWS dC dI (TYS cI cL cB cZ cT cR) [] nb adK adV)) (roQi k) 0 0 (fun _ => False) := by
  refine Met.ofW (cc := cJ0_isLatin1_aae02) (maxL := 1) (ret := (some .boolean)) (by decide) rfl ?_
  intro p e s m args below meth c s₁ B hml hv
  obtain ⟨rfl, ⟨hP, hK, hN⟩, hSF⟩ := hv
  have C : CX p s m _ meth c cJ0_isLatin1_aae02 1 wsJ0_isLatin1_aae02 RJ0 (some .boolean) := ⟨B.exec, B.bytes, hml, findClass_of_methodNamed B.named, atoms_spec (ws := wsJ0_isLatin1_aae02) B.pre, B.returns, B.notSynchronized⟩
  obtain ⟨hx, hb, -, hown, hts, hr, hlocks⟩ := id C
  have hS : va_S (fun q => nb ≤ q) s.heap s.heap [] := va_S.rf
  have hl := lv_entry ([.ref (adK i)]) (n := 1) (Nat.le_of_ble_eq_true rfl)
  rw [lg_entry_eq]
  generalize (lg_sl ([.ref (adK i)]) ++ List.replicate (1 - (lg_sl ([.ref (adK i)])).length) Slot.unset).toArray = ls at hl ⊢
  have hl : lv_has ls 1 [(0, .ref (adK i))] := hl
  refine va_gets hx hb hSF.2.2.1 hS hown (hts _ (show Cond.fieldLink RJ0 38 "java/lang/String" "COMPACT_STRINGS" "Z" ∈ wsJ0_isLatin1_aae02 by decide +kernel)) (fun _ h9 => h9) dJ0_isLatin1_aae02_0 ?_
  refine lv_if_eq (tgt := 17) hx hb dJ0_isLatin1_aae02_3 (by decide) (fun c_1 => absurd c_1 (by decide)) (fun c_1 => ?_)
  refine lv_aload_n hx hb dJ0_isLatin1_aae02_6 rfl (lv_at hl 0 rfl) ?_
  refine vk_getf hx hb (hSF.1.1 i hi).2.1 hS hown (hts _ (show Cond.fieldLink RJ0 15 "java/lang/String" "coder" "B" ∈ wsJ0_isLatin1_aae02 by decide +kernel)) (fun _ h9 => h9) dJ0_isLatin1_aae02_7 ?_
  refine lv_if_ne (tgt := 17) hx hb dJ0_isLatin1_aae02_10 (by decide) (fun c_2 => absurd rfl c_2) (fun c_2 => ?_)
  refine lv_iconst (v := (1 : Int32)) hx hb dJ0_isLatin1_aae02_13 (by decide) ?_
  refine lv_goto (tgt := 18) hx hb dJ0_isLatin1_aae02_14 (by decide) ?_
  exact W.zret (v := 1) hx hb hr rfl (fun t ht hW => ⟨1, rfl, hf, ht⟩) (fun q h => by cases h) dJ0_isLatin1_aae02_18
set_option maxHeartbeats 4000000 in
set_option maxRecDepth 100000 in
theorem metJ0_length_8abf5 {nb : Nat} {adK adV : Nat → Nat} {i : Nat} (hi : i < 6) {k : Int32 → Prop} (hf : k (nI (strLen.getD i 0))) : Met l yJ0_length_8abf5 wsJ0_length_8abf5 ({ frames := 1, cells := 0, slots := 0, locals := 20 } : Room) (va_Pc [.ref (adK i)] (PWS dC dI (TYS cI cL cB cZ cT cR) [] nb adK adV)) (roQi k) 0 0 (fun _ => False) := by
  refine Met.ofW (cc := cJ0_length_8abf5) (maxL := 1) (ret := (some .int)) (by decide) rfl ?_
  intro p e s m args below meth c s₁ B hml hv
  obtain ⟨rfl, ⟨hP, hK, hN⟩, hSF⟩ := hv
  have C : CX p s m _ meth c cJ0_length_8abf5 1 wsJ0_length_8abf5 RJ0 (some .int) := ⟨B.exec, B.bytes, hml, findClass_of_methodNamed B.named, atoms_spec (ws := wsJ0_length_8abf5) B.pre, B.returns, B.notSynchronized⟩
  obtain ⟨hx, hb, -, hown, hts, hr, hlocks⟩ := id C
  have hS : va_S (fun q => nb ≤ q) s.heap s.heap [] := va_S.rf
  have hl := lv_entry ([.ref (adK i)]) (n := 1) (Nat.le_of_ble_eq_true rfl)
  rw [lg_entry_eq]
  generalize (lg_sl ([.ref (adK i)]) ++ List.replicate (1 - (lg_sl ([.ref (adK i)])).length) Slot.unset).toArray = ls at hl ⊢
  have hl : lv_has ls 1 [(0, .ref (adK i))] := hl
  refine lv_aload_n hx hb dJ0_length_8abf5_0 rfl (lv_at hl 0 rfl) ?_
  refine vk_getf hx hb (hSF.1.1 i hi).2.2.1 hS hown (hts _ (show Cond.fieldLink RJ0 9 "java/lang/String" "value" "[B" ∈ wsJ0_length_8abf5 by decide +kernel)) (fun _ h9 => h9) dJ0_length_8abf5_1 ?_
  refine va_tlen (v := nI (strLen.getD i 0)) hx hb (hSF.1.1 i hi).2.2.2 hS rfl dJ0_length_8abf5_4 ?_
  refine lv_aload_n hx hb dJ0_length_8abf5_5 rfl (lv_at hl 0 rfl) ?_
  refine ro_calli (va_runV (As := []) (rest := [.int (nI (strLen.getD i 0))]) ⟨hx, hb, hml, hown, hts⟩ (metJ0_coder_7d493 (dC := dC) (dI := dI) (cI := cI) (cL := cL) (cB := cB) (cZ := cZ) (cT := cT) (cR := cR) (nb := nb) (adV := adV) hi (k := fun r => r = 0) rfl) (cwV 0 hts gJ0_length_8abf5_J0_coder_7d493 rfl rfl rfl ⟨rfl, ⟨by decide +kernel, by decide +kernel, by decide +kernel⟩⟩ ⟨Nat.le_of_ble_eq_true rfl, Nat.le_of_ble_eq_true rfl⟩) ⟨PWS.blind, vk_recv hSF.1 hi hS, fun U hU hW => ⟨rfl, PW.go hU hW (hP.sub (ws' := []) [] rfl) hK hN, SF.go hU hW hSF⟩⟩ rfl rfl hl.1 rfl (lv_room (Nat.le_of_ble_eq_true rfl)) dJ0_length_8abf5_6 ⟨Nat.zero_le _, Nat.zero_le _⟩) (fun r_1 h1 => ?_)
  subst h1
  refine lv_ishr hx hb dJ0_length_8abf5_9 ?_
  exact W.iret hx hb hr (fun t ht hW => ⟨_, rfl, by rw [sc_shr0 (strLen_lt i hi)]; exact hf, ht⟩) (fun q h => by cases h) dJ0_length_8abf5_10
set_option maxHeartbeats 4000000 in
set_option maxRecDepth 100000 in
theorem metJ3_checkIndex_8e157n {nb : Nat} {adK adV : Nat → Nat} {a0 a1 : Int32}  {k : Int32 → Prop} (h0 : ¬ a0 < 0) (h1 : a0 < a1) (hf : k a0) : Met l yJ3_checkIndex_8e157 wsJ3_checkIndex_8e157 ({ frames := 0, cells := 0, slots := 0, locals := 0 } : Room) (va_Pc [.int a0, .int a1, .null] (PWS dC dI (TYS cI cL cB cZ cT cR) [] nb adK adV)) (roQi k) 0 0 (fun _ => False) := by
  refine Met.ofW (cc := cJ3_checkIndex_8e157) (maxL := 3) (ret := (some .int)) (by decide) rfl ?_
  intro p e s m args below meth c s₁ B hml hv
  obtain ⟨rfl, ⟨hP, hK, hN⟩, hSF⟩ := hv
  have C : CX p s m _ meth c cJ3_checkIndex_8e157 3 wsJ3_checkIndex_8e157 RJ3 (some .int) := ⟨B.exec, B.bytes, hml, findClass_of_methodNamed B.named, atoms_spec (ws := wsJ3_checkIndex_8e157) B.pre, B.returns, B.notSynchronized⟩
  obtain ⟨hx, hb, -, hown, hts, hr, hlocks⟩ := id C
  have hS : va_S (fun q => nb ≤ q) s.heap s.heap [] := va_S.rf
  have hl := lv_entry ([.int a0, .int a1, .null]) (n := 3) (Nat.le_of_ble_eq_true rfl)
  rw [lg_entry_eq]
  generalize (lg_sl ([.int a0, .int a1, .null]) ++ List.replicate (3 - (lg_sl ([.int a0, .int a1, .null])).length) Slot.unset).toArray = ls at hl ⊢
  have hl : lv_has ls 3 [(0, .int a0), (1, .int a1), (2, .null)] := hl
  refine lv_iload_n hx hb dJ3_checkIndex_8e157_0 rfl (lv_at hl 0 rfl) ?_
  refine lv_if_lt (tgt := 9) hx hb dJ3_checkIndex_8e157_1 (by decide) (fun c_1 => absurd c_1 h0) (fun c_1 => ?_)
  refine lv_iload_n hx hb dJ3_checkIndex_8e157_4 rfl (lv_at hl 0 rfl) ?_
  refine lv_iload_n hx hb dJ3_checkIndex_8e157_5 rfl (lv_at hl 1 rfl) ?_
  refine lv_icmp_lt (tgt := 16) hx hb dJ3_checkIndex_8e157_6 (by decide) (fun c_2 => ?_) (fun c_2 => absurd h1 c_2)
  refine lv_iload_n hx hb dJ3_checkIndex_8e157_16 rfl (lv_at hl 0 rfl) ?_
  exact W.iret (v := a0) hx hb hr (fun t ht hW => ⟨a0, rfl, hf, ht⟩) (fun q h => by cases h) dJ3_checkIndex_8e157_17
set_option maxHeartbeats 4000000 in
set_option maxRecDepth 100000 in
theorem metJ3_checkIndex_8e157r {nb : Nat} {adK adV : Nat → Nat} {a0 a1 : Int32} {t3 : Nat} {k : Int32 → Prop} (h0 : ¬ a0 < 0) (h1 : a0 < a1) (hf : k a0) : Met l yJ3_checkIndex_8e157 wsJ3_checkIndex_8e157 ({ frames := 0, cells := 0, slots := 0, locals := 0 } : Room) (va_Pc [.int a0, .int a1, .ref t3] (PWS dC dI (TYS cI cL cB cZ cT cR) [] nb adK adV)) (roQi k) 0 0 (fun _ => False) := by
  refine Met.ofW (cc := cJ3_checkIndex_8e157) (maxL := 3) (ret := (some .int)) (by decide) rfl ?_
  intro p e s m args below meth c s₁ B hml hv
  obtain ⟨rfl, ⟨hP, hK, hN⟩, hSF⟩ := hv
  have C : CX p s m _ meth c cJ3_checkIndex_8e157 3 wsJ3_checkIndex_8e157 RJ3 (some .int) := ⟨B.exec, B.bytes, hml, findClass_of_methodNamed B.named, atoms_spec (ws := wsJ3_checkIndex_8e157) B.pre, B.returns, B.notSynchronized⟩
  obtain ⟨hx, hb, -, hown, hts, hr, hlocks⟩ := id C
  have hS : va_S (fun q => nb ≤ q) s.heap s.heap [] := va_S.rf
  have hl := lv_entry ([.int a0, .int a1, .ref t3]) (n := 3) (Nat.le_of_ble_eq_true rfl)
  rw [lg_entry_eq]
  generalize (lg_sl ([.int a0, .int a1, .ref t3]) ++ List.replicate (3 - (lg_sl ([.int a0, .int a1, .ref t3])).length) Slot.unset).toArray = ls at hl ⊢
  have hl : lv_has ls 3 [(0, .int a0), (1, .int a1), (2, .ref t3)] := hl
  refine lv_iload_n hx hb dJ3_checkIndex_8e157_0 rfl (lv_at hl 0 rfl) ?_
  refine lv_if_lt (tgt := 9) hx hb dJ3_checkIndex_8e157_1 (by decide) (fun c_1 => absurd c_1 h0) (fun c_1 => ?_)
  refine lv_iload_n hx hb dJ3_checkIndex_8e157_4 rfl (lv_at hl 0 rfl) ?_
  refine lv_iload_n hx hb dJ3_checkIndex_8e157_5 rfl (lv_at hl 1 rfl) ?_
  refine lv_icmp_lt (tgt := 16) hx hb dJ3_checkIndex_8e157_6 (by decide) (fun c_2 => ?_) (fun c_2 => absurd h1 c_2)
  refine lv_iload_n hx hb dJ3_checkIndex_8e157_16 rfl (lv_at hl 0 rfl) ?_
  exact W.iret (v := a0) hx hb hr (fun t ht hW => ⟨a0, rfl, hf, ht⟩) (fun q h => by cases h) dJ3_checkIndex_8e157_17
set_option maxHeartbeats 4000000 in
set_option maxRecDepth 100000 in
theorem metJ0_checkIndex_df160 {nb : Nat} {adK adV : Nat → Nat} {a0 a1 : Int32} {k : Prop} (h0 : ¬ a0 < 0) (h1 : a0 < a1) (hf : k) : Met l yJ0_checkIndex_df160 wsJ0_checkIndex_df160 ({ frames := 1, cells := 0, slots := 0, locals := 22 } : Room) (va_Pc [.int a0, .int a1] (PWS dC dI (TYS cI cL cB cZ cT cR) [] nb adK adV)) (roQv k) 0 0 (fun _ => False) := by
  refine Met.ofW (cc := cJ0_checkIndex_df160) (maxL := 2) (ret := none) (by decide) rfl ?_
  intro p e s m args below meth c s₁ B hml hv
  obtain ⟨rfl, ⟨hP, hK, hN⟩, hSF⟩ := hv
  have C : CX p s m _ meth c cJ0_checkIndex_df160 2 wsJ0_checkIndex_df160 RJ0 none := ⟨B.exec, B.bytes, hml, findClass_of_methodNamed B.named, atoms_spec (ws := wsJ0_checkIndex_df160) B.pre, B.returns, B.notSynchronized⟩
  obtain ⟨hx, hb, -, hown, hts, hr, hlocks⟩ := id C
  have hS : va_S (fun q => nb ≤ q) s.heap s.heap [] := va_S.rf
  have hl := lv_entry ([.int a0, .int a1]) (n := 2) (Nat.le_of_ble_eq_true rfl)
  rw [lg_entry_eq]
  generalize (lg_sl ([.int a0, .int a1]) ++ List.replicate (2 - (lg_sl ([.int a0, .int a1])).length) Slot.unset).toArray = ls at hl ⊢
  have hl : lv_has ls 2 [(0, .int a0), (1, .int a1)] := hl
  refine lv_iload_n hx hb dJ0_checkIndex_df160_0 rfl (lv_at hl 0 rfl) ?_
  refine lv_iload_n hx hb dJ0_checkIndex_df160_1 rfl (lv_at hl 1 rfl) ?_
  rcases hSF.2.2.2 with hZ | ⟨t3, hZ⟩
  · refine va_gets hx hb hZ hS hown (hts _ (show Cond.fieldLink RJ0 1053 "jdk/internal/util/Preconditions" "SIOOBE_FORMATTER" "Ljava/util/function/BiFunction;" ∈ wsJ0_checkIndex_df160 by decide +kernel)) (fun _ h9 => h9) dJ0_checkIndex_df160_2 ?_
    refine ro_calli (va_runS (As := [.int a0, .int a1, .null]) (rest := []) ⟨hx, hb, hml, hown, hts⟩ (metJ3_checkIndex_8e157n (dC := dC) (dI := dI) (cI := cI) (cL := cL) (cB := cB) (cZ := cZ) (cT := cT) (cR := cR) (nb := nb) (adK := adK) (adV := adV) (k := fun _ => True) h0 h1 trivial) (va_cwS 3 hts gJ0_checkIndex_df160_J3_checkIndex_8e157 rfl rfl rfl ⟨by decide +kernel, by decide +kernel, by decide +kernel⟩ ⟨Nat.le_of_ble_eq_true rfl, Nat.le_of_ble_eq_true rfl⟩) ⟨PWS.blind, fun U hU hW => ⟨rfl, PW.go hU hW (hP.sub (ws' := []) [] rfl) hK hN, SF.go hU hW hSF⟩⟩ rfl rfl hl.1 rfl (lv_room (Nat.le_of_ble_eq_true rfl)) dJ0_checkIndex_df160_5 ⟨Nat.zero_le _, Nat.zero_le _⟩) (fun r_1 h_1 => ?_)
    refine lv_pop hx hb dJ0_checkIndex_df160_8 rfl ?_
    exact W.vret hx hb hr (fun t ht hW => ⟨rfl, hf, ht⟩) (fun q h => by cases h) dJ0_checkIndex_df160_9
  · refine va_gets hx hb hZ hS hown (hts _ (show Cond.fieldLink RJ0 1053 "jdk/internal/util/Preconditions" "SIOOBE_FORMATTER" "Ljava/util/function/BiFunction;" ∈ wsJ0_checkIndex_df160 by decide +kernel)) (fun _ h9 => h9) dJ0_checkIndex_df160_2 ?_
    refine ro_calli (va_runS (As := [.int a0, .int a1, .ref t3]) (rest := []) ⟨hx, hb, hml, hown, hts⟩ (metJ3_checkIndex_8e157r (dC := dC) (dI := dI) (cI := cI) (cL := cL) (cB := cB) (cZ := cZ) (cT := cT) (cR := cR) (nb := nb) (adK := adK) (adV := adV) (k := fun _ => True) h0 h1 trivial) (va_cwS 3 hts gJ0_checkIndex_df160_J3_checkIndex_8e157 rfl rfl rfl ⟨by decide +kernel, by decide +kernel, by decide +kernel⟩ ⟨Nat.le_of_ble_eq_true rfl, Nat.le_of_ble_eq_true rfl⟩) ⟨PWS.blind, fun U hU hW => ⟨rfl, PW.go hU hW (hP.sub (ws' := []) [] rfl) hK hN, SF.go hU hW hSF⟩⟩ rfl rfl hl.1 rfl (lv_room (Nat.le_of_ble_eq_true rfl)) dJ0_checkIndex_df160_5 ⟨Nat.zero_le _, Nat.zero_le _⟩) (fun r_1 h_1 => ?_)
    refine lv_pop hx hb dJ0_checkIndex_df160_8 rfl ?_
    exact W.vret hx hb hr (fun t ht hW => ⟨rfl, hf, ht⟩) (fun q h => by cases h) dJ0_checkIndex_df160_9
set_option maxHeartbeats 4000000 in
set_option maxRecDepth 100000 in
theorem metJ1_charAt_3b067 {nb : Nat} {adK adV : Nat → Nat} {i : Nat} (hi : i < 6) {a1 : Int32} {k : Int32 → Prop} (hin : vp_in a1 (strLen.getD i 0)) (hf : k (sch i a1)) : Met l yJ1_charAt_3b067 wsJ1_charAt_3b067 ({ frames := 2, cells := 0, slots := 0, locals := 43 } : Room) (va_Pc [.ref (adV i), .int a1] (PWS dC dI (TYS cI cL cB cZ cT cR) [] nb adK adV)) (roQi k) 0 0 (fun _ => False) := by
  refine Met.ofW (cc := cJ1_charAt_3b067) (maxL := 2) (ret := (some .char)) (by decide) rfl ?_
  intro p e s m args below meth c s₁ B hml hv
  obtain ⟨rfl, ⟨hP, hK, hN⟩, hSF⟩ := hv
  have C : CX p s m _ meth c cJ1_charAt_3b067 2 wsJ1_charAt_3b067 RJ1 (some .char) := ⟨B.exec, B.bytes, hml, findClass_of_methodNamed B.named, atoms_spec (ws := wsJ1_charAt_3b067) B.pre, B.returns, B.notSynchronized⟩
  obtain ⟨hx, hb, -, hown, hts, hr, hlocks⟩ := id C
  have hS : va_S (fun q => nb ≤ q) s.heap s.heap [] := va_S.rf
  have hl := lv_entry ([.ref (adV i), .int a1]) (n := 2) (Nat.le_of_ble_eq_true rfl)
  rw [lg_entry_eq]
  generalize (lg_sl ([.ref (adV i), .int a1]) ++ List.replicate (2 - (lg_sl ([.ref (adV i), .int a1])).length) Slot.unset).toArray = ls at hl ⊢
  have hl : lv_has ls 2 [(0, .ref (adV i)), (1, .int a1)] := hl
  have h0 : ¬ a1 < 0 := fun z => hin (Or.inl z)
  have h1 : a1 < nI (strLen.getD i 0) := by
    obtain ⟨j, hj, rfl⟩ := vp_in_of hin (strLen_lt i hi)
    exact nI_lt hj (strLen_lt i hi)
  refine lv_iload_n hx hb dJ1_charAt_3b067_0 rfl (lv_at hl 1 rfl) ?_
  refine lv_aload_n hx hb dJ1_charAt_3b067_1 rfl (lv_at hl 0 rfl) ?_
  refine va_tlen (v := nI (strLen.getD i 0)) hx hb (hSF.1.1 i hi).2.2.2 hS rfl dJ1_charAt_3b067_2 ?_
  refine ro_callv (va_runS (As := [.int a1, .int (nI (strLen.getD i 0))]) (rest := []) ⟨hx, hb, hml, hown, hts⟩ (metJ0_checkIndex_df160 (dC := dC) (dI := dI) (cI := cI) (cL := cL) (cB := cB) (cZ := cZ) (cT := cT) (cR := cR) (nb := nb) (adK := adK) (adV := adV) (k := True) h0 h1 trivial) (va_cwS 2 hts gJ1_charAt_3b067_J0_checkIndex_df160 rfl rfl rfl ⟨by decide +kernel, by decide +kernel, by decide +kernel⟩ ⟨Nat.le_of_ble_eq_true rfl, Nat.le_of_ble_eq_true rfl⟩) ⟨PWS.blind, fun U hU hW => ⟨rfl, PW.go hU hW (hP.sub (ws' := []) [] rfl) hK hN, SF.go hU hW hSF⟩⟩ rfl rfl hl.1 rfl (lv_room (Nat.le_of_ble_eq_true rfl)) dJ1_charAt_3b067_3 ⟨Nat.zero_le _, Nat.zero_le _⟩) (fun h_1 => ?_)
  refine lv_aload_n hx hb dJ1_charAt_3b067_6 rfl (lv_at hl 0 rfl) ?_
  refine lv_iload_n hx hb dJ1_charAt_3b067_7 rfl (lv_at hl 1 rfl) ?_
  refine va_tb hx hb (hSF.1.1 i hi).2.2.2 hS hin rfl dJ1_charAt_3b067_8 ?_
  refine lv_sipush (v := (255 : Int32)) hx hb dJ1_charAt_3b067_9 (by decide) ?_
  refine lv_iand hx hb dJ1_charAt_3b067_12 ?_
  refine lv_i2c (v := sch i a1) hx hb dJ1_charAt_3b067_13 (sc_c2 _) ?_
  exact W.zret (v := sch i a1) hx hb hr (sc_nar _) (fun t ht hW => ⟨sch i a1, rfl, hf, ht⟩) (fun q h => by cases h) dJ1_charAt_3b067_14
set_option maxHeartbeats 4000000 in
set_option maxRecDepth 100000 in
theorem metJ0_charAt_5068e {nb : Nat} {adK adV : Nat → Nat} {i : Nat} (hi : i < 6) {a1 : Int32} {k : Int32 → Prop} (hin : vp_in a1 (strLen.getD i 0)) (hf : k (sch i a1)) : Met l yJ0_charAt_5068e wsJ0_charAt_5068e ({ frames := 3, cells := 0, slots := 0, locals := 64 } : Room) (va_Pc [.ref (adK i), .int a1] (PWS dC dI (TYS cI cL cB cZ cT cR) [] nb adK adV)) (roQi k) 0 0 (fun _ => False) := by
  refine Met.ofW (cc := cJ0_charAt_5068e) (maxL := 2) (ret := (some .char)) (by decide) rfl ?_
  intro p e s m args below meth c s₁ B hml hv
  obtain ⟨rfl, ⟨hP, hK, hN⟩, hSF⟩ := hv
  have C : CX p s m _ meth c cJ0_charAt_5068e 2 wsJ0_charAt_5068e RJ0 (some .char) := ⟨B.exec, B.bytes, hml, findClass_of_methodNamed B.named, atoms_spec (ws := wsJ0_charAt_5068e) B.pre, B.returns, B.notSynchronized⟩
  obtain ⟨hx, hb, -, hown, hts, hr, hlocks⟩ := id C
  have hS : va_S (fun q => nb ≤ q) s.heap s.heap [] := va_S.rf
  have hl := lv_entry ([.ref (adK i), .int a1]) (n := 2) (Nat.le_of_ble_eq_true rfl)
  rw [lg_entry_eq]
  generalize (lg_sl ([.ref (adK i), .int a1]) ++ List.replicate (2 - (lg_sl ([.ref (adK i), .int a1])).length) Slot.unset).toArray = ls at hl ⊢
  have hl : lv_has ls 2 [(0, .ref (adK i)), (1, .int a1)] := hl
  refine lv_aload_n hx hb dJ0_charAt_5068e_0 rfl (lv_at hl 0 rfl) ?_
  refine ro_calli (va_runV (As := []) (rest := []) ⟨hx, hb, hml, hown, hts⟩ (metJ0_isLatin1_aae02 (dC := dC) (dI := dI) (cI := cI) (cL := cL) (cB := cB) (cZ := cZ) (cT := cT) (cR := cR) (nb := nb) (adV := adV) hi (k := fun r => r = 1) rfl) (cwV 0 hts gJ0_charAt_5068e_J0_isLatin1_aae02 rfl rfl rfl ⟨rfl, ⟨by decide +kernel, by decide +kernel, by decide +kernel⟩⟩ ⟨Nat.le_of_ble_eq_true rfl, Nat.le_of_ble_eq_true rfl⟩) ⟨PWS.blind, vk_recv hSF.1 hi hS, fun U hU hW => ⟨rfl, PW.go hU hW (hP.sub (ws' := []) [] rfl) hK hN, SF.go hU hW hSF⟩⟩ rfl rfl hl.1 rfl (lv_room (Nat.le_of_ble_eq_true rfl)) dJ0_charAt_5068e_1 ⟨Nat.zero_le _, Nat.zero_le _⟩) (fun r_1 h1 => ?_)
  subst h1
  refine lv_if_eq (tgt := 16) hx hb dJ0_charAt_5068e_4 (by decide) (fun c_1 => absurd c_1 (by decide)) (fun c_1 => ?_)
  refine lv_aload_n hx hb dJ0_charAt_5068e_7 rfl (lv_at hl 0 rfl) ?_
  refine vk_getf hx hb (hSF.1.1 i hi).2.2.1 hS hown (hts _ (show Cond.fieldLink RJ0 9 "java/lang/String" "value" "[B" ∈ wsJ0_charAt_5068e by decide +kernel)) (fun _ h9 => h9) dJ0_charAt_5068e_8 ?_
  refine lv_iload_n hx hb dJ0_charAt_5068e_11 rfl (lv_at hl 1 rfl) ?_
  refine ro_calli (va_runS (As := [.ref (adV i), .int a1]) (rest := []) ⟨hx, hb, hml, hown, hts⟩ (metJ1_charAt_3b067 (dC := dC) (dI := dI) (cI := cI) (cL := cL) (cB := cB) (cZ := cZ) (cT := cT) (cR := cR) (nb := nb) (adK := adK) (adV := adV) hi (k := fun r => r = sch i a1) hin rfl) (va_cwS 2 hts gJ0_charAt_5068e_J1_charAt_3b067 rfl rfl rfl ⟨by decide +kernel, by decide +kernel, by decide +kernel⟩ ⟨Nat.le_of_ble_eq_true rfl, Nat.le_of_ble_eq_true rfl⟩) ⟨PWS.blind, fun U hU hW => ⟨rfl, PW.go hU hW (hP.sub (ws' := []) [] rfl) hK hN, SF.go hU hW hSF⟩⟩ rfl rfl hl.1 rfl (lv_room (Nat.le_of_ble_eq_true rfl)) dJ0_charAt_5068e_12 ⟨Nat.zero_le _, Nat.zero_le _⟩) (fun r_2 h2 => ?_)
  subst h2
  exact W.zret (v := sch i a1) hx hb hr (sc_nar _) (fun t ht hW => ⟨sch i a1, rfl, hf, ht⟩) (fun q h => by cases h) dJ0_charAt_5068e_15
end
