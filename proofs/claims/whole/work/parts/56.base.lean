abbrev TYS (cI cL cB cZ cT cR : ClassId) : List (ClassId × FieldType) := [(cI, .int), (cL, .long), (cB, .byte), (cZ, .boolean), (cT, .object "PassStones$Taker"), (cR, .object "PassStones$Road")]
def kd (a b c d e f : Nat) : Nat → Option Nat := fun k => if k = 0 then some a else if k = 1 then some b else if k = 2 then some c else if k = 3 then some d else if k = 4 then some e else if k = 5 then some f else none
def nwL : List Cond := [Cond.fieldLinkNest RX11 231 "PassStones$Hiring" "men" "I" "PassStones", Cond.fieldLinkNest RX11 109 "PassStones$Road" "passers" "LPassStones$Rows;" "PassStones", Cond.fieldLinkNest RX11 181 "PassStones$Road" "beasts" "LPassStones$Rows;" "PassStones", Cond.fieldLinkNest RX3 28 "PassStones$Road" "checks" "LPassStones$Rows;" "PassStones", Cond.fieldLinkNest RX11 222 "PassStones$Road" "checks" "LPassStones$Rows;" "PassStones", Cond.fieldLinkNest RX11 252 "PassStones$Road" "looks" "LPassStones$Rows;" "PassStones", Cond.fieldLinkNest RX11 187 "PassStones$Road" "high" "I" "PassStones", Cond.fieldLinkNest RX11 190 "PassStones$Road" "low" "I" "PassStones", Cond.methodLinkNest RX5 47 yX11_isHigh "PassStones", Cond.methodLinkNest RX5 51 yX11_isMinute "PassStones", Cond.methodLinkNest RX5 58 yX11_within "PassStones", Cond.methodLinkNest RX5 70 yX11_stand "PassStones", Cond.methodLinkNest RX5 90 yX11_highOf "PassStones", Cond.methodLinkNest RX5 93 yX11_didOf "PassStones", Cond.methodLinkNest RX3 63 yX11_highOf "PassStones", Cond.methodLinkNest RX3 72 yX11_didOf "PassStones", Cond.methodLinkNest RX3 75 yX11_stand "PassStones", Cond.methodLinkNest RX11 17 yX6_init "PassStones", Cond.methodLinkNest RX11 24 yX3_init "PassStones", Cond.methodLinkNest RX11 31 yX8_init "PassStones", Cond.methodLinkNest RX11 65 yX9_init "PassStones", Cond.methodLinkNest RX11 68 yX4_init "PassStones", Cond.methodLinkNest RX4 1 yX9_init "PassStones", Cond.methodLinkNest RX11 71 yX10_init "PassStones", Cond.methodLinkNest RX10 1 yX4_init "PassStones", Cond.methodLinkNest RX11 74 yX2_init "PassStones", Cond.methodLinkNest RX2 1 yX9_init "PassStones", Cond.methodLinkNest RX11 77 yX1_init "PassStones", Cond.methodLinkNest RX1 1 yX9_init "PassStones", Cond.methodLinkNest RX11 80 yX0_init "PassStones", Cond.methodLinkNest RX0 1 yX10_init "PassStones"]
theorem nwf_0 : Cond.fieldLinkNest RX11 231 "PassStones$Hiring" "men" "I" "PassStones" ∈ nwL := List.mem_of_getElem? (i := 0) rfl
theorem nwf_1 : Cond.fieldLinkNest RX11 109 "PassStones$Road" "passers" "LPassStones$Rows;" "PassStones" ∈ nwL := List.mem_of_getElem? (i := 1) rfl
theorem nwf_2 : Cond.fieldLinkNest RX11 181 "PassStones$Road" "beasts" "LPassStones$Rows;" "PassStones" ∈ nwL := List.mem_of_getElem? (i := 2) rfl
theorem nwf_3 : Cond.fieldLinkNest RX3 28 "PassStones$Road" "checks" "LPassStones$Rows;" "PassStones" ∈ nwL := List.mem_of_getElem? (i := 3) rfl
theorem nwf_4 : Cond.fieldLinkNest RX11 222 "PassStones$Road" "checks" "LPassStones$Rows;" "PassStones" ∈ nwL := List.mem_of_getElem? (i := 4) rfl
theorem nwf_5 : Cond.fieldLinkNest RX11 252 "PassStones$Road" "looks" "LPassStones$Rows;" "PassStones" ∈ nwL := List.mem_of_getElem? (i := 5) rfl
theorem nwf_6 : Cond.fieldLinkNest RX11 187 "PassStones$Road" "high" "I" "PassStones" ∈ nwL := List.mem_of_getElem? (i := 6) rfl
theorem nwf_7 : Cond.fieldLinkNest RX11 190 "PassStones$Road" "low" "I" "PassStones" ∈ nwL := List.mem_of_getElem? (i := 7) rfl
theorem nwm_0 : Cond.methodLinkNest RX5 47 yX11_isHigh "PassStones" ∈ nwL := List.mem_of_getElem? (i := 8) rfl
theorem nwm_1 : Cond.methodLinkNest RX5 51 yX11_isMinute "PassStones" ∈ nwL := List.mem_of_getElem? (i := 9) rfl
theorem nwm_2 : Cond.methodLinkNest RX5 58 yX11_within "PassStones" ∈ nwL := List.mem_of_getElem? (i := 10) rfl
theorem nwm_3 : Cond.methodLinkNest RX5 70 yX11_stand "PassStones" ∈ nwL := List.mem_of_getElem? (i := 11) rfl
theorem nwm_4 : Cond.methodLinkNest RX5 90 yX11_highOf "PassStones" ∈ nwL := List.mem_of_getElem? (i := 12) rfl
theorem nwm_5 : Cond.methodLinkNest RX5 93 yX11_didOf "PassStones" ∈ nwL := List.mem_of_getElem? (i := 13) rfl
theorem nwm_6 : Cond.methodLinkNest RX3 63 yX11_highOf "PassStones" ∈ nwL := List.mem_of_getElem? (i := 14) rfl
theorem nwm_7 : Cond.methodLinkNest RX3 72 yX11_didOf "PassStones" ∈ nwL := List.mem_of_getElem? (i := 15) rfl
theorem nwm_8 : Cond.methodLinkNest RX3 75 yX11_stand "PassStones" ∈ nwL := List.mem_of_getElem? (i := 16) rfl
theorem nwi_0 : Cond.methodLinkNest RX11 17 yX6_init "PassStones" ∈ nwL := List.mem_of_getElem? (i := 17) rfl
theorem nwi_1 : Cond.methodLinkNest RX11 24 yX3_init "PassStones" ∈ nwL := List.mem_of_getElem? (i := 18) rfl
theorem nwi_2 : Cond.methodLinkNest RX11 31 yX8_init "PassStones" ∈ nwL := List.mem_of_getElem? (i := 19) rfl
theorem nwi_3 : Cond.methodLinkNest RX11 65 yX9_init "PassStones" ∈ nwL := List.mem_of_getElem? (i := 20) rfl
theorem nwi_4 : Cond.methodLinkNest RX11 68 yX4_init "PassStones" ∈ nwL := List.mem_of_getElem? (i := 21) rfl
theorem nwi_5 : Cond.methodLinkNest RX4 1 yX9_init "PassStones" ∈ nwL := List.mem_of_getElem? (i := 22) rfl
theorem nwi_6 : Cond.methodLinkNest RX11 71 yX10_init "PassStones" ∈ nwL := List.mem_of_getElem? (i := 23) rfl
theorem nwi_7 : Cond.methodLinkNest RX10 1 yX4_init "PassStones" ∈ nwL := List.mem_of_getElem? (i := 24) rfl
theorem nwi_8 : Cond.methodLinkNest RX11 74 yX2_init "PassStones" ∈ nwL := List.mem_of_getElem? (i := 25) rfl
theorem nwi_9 : Cond.methodLinkNest RX2 1 yX9_init "PassStones" ∈ nwL := List.mem_of_getElem? (i := 26) rfl
theorem nwi_10 : Cond.methodLinkNest RX11 77 yX1_init "PassStones" ∈ nwL := List.mem_of_getElem? (i := 27) rfl
theorem nwi_11 : Cond.methodLinkNest RX1 1 yX9_init "PassStones" ∈ nwL := List.mem_of_getElem? (i := 28) rfl
theorem nwi_12 : Cond.methodLinkNest RX11 80 yX0_init "PassStones" ∈ nwL := List.mem_of_getElem? (i := 29) rfl
theorem nwi_13 : Cond.methodLinkNest RX0 1 yX10_init "PassStones" ∈ nwL := List.mem_of_getElem? (i := 30) rfl
/-- the nest mates' words, at a state -/
def NW (U : State) : Prop := ∀ w ∈ nwL, va_Nw w U
/-- a word of the two forms that the list holds -/
def nwOk (w : Cond) : Prop := (∃ a i b n d h, w = Cond.fieldLinkNest a i b n d h) ∨ ∃ a i x h, w = Cond.methodLinkNest a i x h
theorem nwOk_warm {w : Cond} (ho : nwOk w) {s U : State} (hW : s.WarmedH U.vm) (h : va_Nw w s) : va_Nw w U := by
  rcases ho with ⟨a, i, b, n, d, k, rfl⟩ | ⟨a, i, x, k, rfl⟩
  · exact va_Nw.warmF hW h
  · exact va_Nw.warmM hW h
theorem nwOk_same {w : Cond} (ho : nwOk w) {s U : State} (hv : s.vm = U.vm) (h : va_Nw w s) : va_Nw w U := by
  rcases ho with ⟨a, i, b, n, d, k, rfl⟩ | ⟨a, i, x, k, rfl⟩
  · exact va_Nw.same rfl hv h
  · exact va_Nw.same rfl hv h
theorem nwL_ok : ∀ w ∈ nwL, nwOk w := List.forall_mem_cons.mpr ⟨Or.inl ⟨_, _, _, _, _, _, rfl⟩, List.forall_mem_cons.mpr ⟨Or.inl ⟨_, _, _, _, _, _, rfl⟩, List.forall_mem_cons.mpr ⟨Or.inl ⟨_, _, _, _, _, _, rfl⟩, List.forall_mem_cons.mpr ⟨Or.inl ⟨_, _, _, _, _, _, rfl⟩, List.forall_mem_cons.mpr ⟨Or.inl ⟨_, _, _, _, _, _, rfl⟩, List.forall_mem_cons.mpr ⟨Or.inl ⟨_, _, _, _, _, _, rfl⟩, List.forall_mem_cons.mpr ⟨Or.inl ⟨_, _, _, _, _, _, rfl⟩, List.forall_mem_cons.mpr ⟨Or.inl ⟨_, _, _, _, _, _, rfl⟩, List.forall_mem_cons.mpr ⟨Or.inr ⟨_, _, _, _, rfl⟩, List.forall_mem_cons.mpr ⟨Or.inr ⟨_, _, _, _, rfl⟩, List.forall_mem_cons.mpr ⟨Or.inr ⟨_, _, _, _, rfl⟩, List.forall_mem_cons.mpr ⟨Or.inr ⟨_, _, _, _, rfl⟩, List.forall_mem_cons.mpr ⟨Or.inr ⟨_, _, _, _, rfl⟩, List.forall_mem_cons.mpr ⟨Or.inr ⟨_, _, _, _, rfl⟩, List.forall_mem_cons.mpr ⟨Or.inr ⟨_, _, _, _, rfl⟩, List.forall_mem_cons.mpr ⟨Or.inr ⟨_, _, _, _, rfl⟩, List.forall_mem_cons.mpr ⟨Or.inr ⟨_, _, _, _, rfl⟩, List.forall_mem_cons.mpr ⟨Or.inr ⟨_, _, _, _, rfl⟩, List.forall_mem_cons.mpr ⟨Or.inr ⟨_, _, _, _, rfl⟩, List.forall_mem_cons.mpr ⟨Or.inr ⟨_, _, _, _, rfl⟩, List.forall_mem_cons.mpr ⟨Or.inr ⟨_, _, _, _, rfl⟩, List.forall_mem_cons.mpr ⟨Or.inr ⟨_, _, _, _, rfl⟩, List.forall_mem_cons.mpr ⟨Or.inr ⟨_, _, _, _, rfl⟩, List.forall_mem_cons.mpr ⟨Or.inr ⟨_, _, _, _, rfl⟩, List.forall_mem_cons.mpr ⟨Or.inr ⟨_, _, _, _, rfl⟩, List.forall_mem_cons.mpr ⟨Or.inr ⟨_, _, _, _, rfl⟩, List.forall_mem_cons.mpr ⟨Or.inr ⟨_, _, _, _, rfl⟩, List.forall_mem_cons.mpr ⟨Or.inr ⟨_, _, _, _, rfl⟩, List.forall_mem_cons.mpr ⟨Or.inr ⟨_, _, _, _, rfl⟩, List.forall_mem_cons.mpr ⟨Or.inr ⟨_, _, _, _, rfl⟩, List.forall_mem_cons.mpr ⟨Or.inr ⟨_, _, _, _, rfl⟩, fun _ h => absurd h List.not_mem_nil⟩⟩⟩⟩⟩⟩⟩⟩⟩⟩⟩⟩⟩⟩⟩⟩⟩⟩⟩⟩⟩⟩⟩⟩⟩⟩⟩⟩⟩⟩⟩
theorem NW.warm {s U : State} (hW : s.WarmedH U.vm) (h : NW s) : NW U := fun w hw => nwOk_warm (nwL_ok w hw) hW (h w hw)
theorem NW.same {s U : State} (hv : s.vm = U.vm) (h : NW s) : NW U := fun w hw => nwOk_same (nwL_ok w hw) hv (h w hw)
def PW (dC : Nat → ClassId) (dI : Nat → Nat → Nat) (ty : List (ClassId × FieldType)) (W0 : va_W) (U : State) : Prop := va_P (dC, dI) vwCl W0 U.heap ∧ va_K (dC, dI) vwCl ty U ∧ NW U
def PR (dC : Nat → ClassId) (dI : Nat → Nat → Nat) (ty : List (ClassId × FieldType)) (W0 : va_W) (sz : Nat) (U : State) : Prop := U.heap.size = sz ∧ va_P (dC, dI) vwCl W0 U.heap ∧ va_K (dC, dI) vwCl ty U ∧ NW U ∧ va_D (fun _ => True) W0
theorem PW.blind {dC : Nat → ClassId} {dI : Nat → Nat → Nat} {ty : List (ClassId × FieldType)} {W0 : va_W} {av : List Value} : FrameBlind (va_Pc av (PW dC dI ty W0)) := fun a U g mk q => by
  obtain ⟨q0, qP, qK, qN⟩ := q
  exact ⟨q0, qP, va_K.moved (u := U) (U := U.calling g mk a) (Vm.Alike.refl U.vm) qK, NW.same (s := U) (U := U.calling g mk a) rfl qN⟩
theorem PR.blind {dC : Nat → ClassId} {dI : Nat → Nat → Nat} {ty : List (ClassId × FieldType)} {W0 : va_W} {sz : Nat} {av : List Value} : FrameBlind (va_Pc av (PR dC dI ty W0 sz)) := fun a U g mk q => by
  obtain ⟨q0, q1, qP, qK, qN, qD⟩ := q
  exact ⟨q0, q1, qP, va_K.moved (u := U) (U := U.calling g mk a) (Vm.Alike.refl U.vm) qK, NW.same (s := U) (U := U.calling g mk a) rfl qN, qD⟩
theorem PW.go {dC : Nat → ClassId} {dI : Nat → Nat → Nat} {ty : List (ClassId × FieldType)} {W0 : va_W} {s U : State} {H : Heap} (hU : U.heap = H) (hW : s.WarmedH U.vm) (hP : va_P (dC, dI) vwCl W0 H) (hK : va_K (dC, dI) vwCl ty s) (hN : NW s) : PW dC dI ty W0 U := ⟨by rw [hU]; exact hP, va_K.moved hW.alike hK, NW.warm hW hN⟩
theorem PR.go {dC : Nat → ClassId} {dI : Nat → Nat → Nat} {ty : List (ClassId × FieldType)} {W0 : va_W} {A : Nat → Prop} {s U : State} {H : Heap} (hU : U.heap = H) (hW : s.WarmedH U.vm) (hP : va_P (dC, dI) vwCl W0 H) (hD : va_D A W0) (hK : va_K (dC, dI) vwCl ty s) (hN : NW s) : PR dC dI ty W0 H.size U := ⟨by rw [hU], by rw [hU]; exact hP, va_K.moved hW.alike hK, NW.warm hW hN, hD.weaken (fun _ _ _ _ => trivial)⟩
/-- the machine at a method's body -/
def CX (p : Program) (s : State) (m : MethodId) (args : Array Value) (meth : Method) (c : Code) (cc : ByteArray) (nL : Nat) (Ts : List Cond) (own : String) (rt : Option FieldType) : Prop := p.tables.exec = Jvm.exec ∧ c.code = cc ∧ c.maxLocals = nL ∧ s.vm.findClass own = some m.cls ∧ (∀ w ∈ Ts, w.before args s = true) ∧ meth.sig.returnType = rt ∧ meth.locks = false
/-- ends of methods that write nothing -/
def roQi (k : Int32 → Prop) : Array Value → State → Outcome → State → Prop := fun _ st oc t => ∃ r : Int32, oc = .returned (some (.int r)) ∧ k r ∧ t.heap = st.heap
def roQl (k : Int64 → Prop) : Array Value → State → Outcome → State → Prop := fun _ st oc t => ∃ r : Int64, oc = .returned (some (.long r)) ∧ k r ∧ t.heap = st.heap
def roQv (k : Prop) : Array Value → State → Outcome → State → Prop := fun _ st oc t => oc = .returned none ∧ k ∧ t.heap = st.heap
theorem k6 {i : Int32} (h : vp_in i 6) : i = 0 ∨ i = 1 ∨ i = 2 ∨ i = 3 ∨ i = 4 ∨ i = 5 := by
  obtain ⟨j, hj, rfl⟩ := vp_in_of h (by decide)
  match j, hj with
  | 0, _ => exact Or.inl rfl
  | 1, _ => exact Or.inr (Or.inl rfl)
  | 2, _ => exact Or.inr (Or.inr (Or.inl rfl))
  | 3, _ => exact Or.inr (Or.inr (Or.inr (Or.inl rfl)))
  | 4, _ => exact Or.inr (Or.inr (Or.inr (Or.inr (Or.inl rfl))))
  | 5, _ => exact Or.inr (Or.inr (Or.inr (Or.inr (Or.inr rfl))))
  | n + 6, h => exact absurd h (by omega)
theorem vbz.nar {x : Int32} (h : vbz x) : narrow .boolean (.int x) = .int x := by
  rcases h with rfl | rfl <;> rfl
section RO
variable {p : Program} {l : Launch} {e : Env} {R : Room} {s : State} {m : MethodId} {args : Array Value} {below : List Frame} {meth : Method} {c : Code} {H : Heap} {locs : List Loc} {cells slots : Nat} {Q : State → Prop} {pc : Nat} {ls : Array Slot} {rest st0 : List Value} {a : Array Value}
theorem ro_calli {k : Int32 → Prop} (hr : va_Run p l e R s m args below meth c H locs cells slots 0 0 (F0 m pc ls st0) rest (roQi k a) (fun _ => False)) (kk : ∀ r : Int32, k r → W p l e R s m args below meth c H locs cells slots Q (F0 m (pc + 3) ls (.int r :: rest))) : W p l e R s m args below meth c H locs cells slots Q (F0 m pc ls st0) := by
  refine W.callX hr.run (fun _ h => h.elim) (fun v st₀ t h0 hq => ?_)
  obtain ⟨r, hv, hk, hh⟩ := hq
  cases hv
  rw [hh, h0]
  exact kk r hk
theorem ro_calll {k : Int64 → Prop} (hr : va_Run p l e R s m args below meth c H locs cells slots 0 0 (F0 m pc ls st0) rest (roQl k a) (fun _ => False)) (kk : ∀ r : Int64, k r → W p l e R s m args below meth c H locs cells slots Q (F0 m (pc + 3) ls (.long r :: rest))) : W p l e R s m args below meth c H locs cells slots Q (F0 m pc ls st0) := by
  refine W.callX hr.run (fun _ h => h.elim) (fun v st₀ t h0 hq => ?_)
  obtain ⟨r, hv, hk, hh⟩ := hq
  cases hv
  rw [hh, h0]
  exact kk r hk
theorem ro_callv {k : Prop} (hr : va_Run p l e R s m args below meth c H locs cells slots 0 0 (F0 m pc ls st0) rest (roQv k a) (fun _ => False)) (kk : k → W p l e R s m args below meth c H locs cells slots Q (F0 m (pc + 3) ls rest)) : W p l e R s m args below meth c H locs cells slots Q (F0 m pc ls st0) := by
  refine W.callX hr.run (fun _ h => h.elim) (fun v st₀ t h0 hq => ?_)
  obtain ⟨hv, hk, hh⟩ := hq
  cases hv
  rw [hh, h0]
  exact kk hk
end RO
/-- behind a call: the caller's cells in their order -/
theorem jn {A0 : Nat → Prop} {D : va_G} {cl : List vw_C} {ws wc wr w1 ws' : va_W} {H H1 : Heap} (hP : va_P D cl ws H) (hD : va_D A0 ws) (isC isR : List Nat) (hC : isC.map (fun i => ws[i]?) = wc.map some) (hR : isR.map (fun i => ws[i]?) = wr.map some) (hn : va_nd isR = true) (hdis : ∀ i ∈ isR, i ∉ isC)
    (hk : ∀ q : Nat, q < H.size → ¬ va_A wc H.size q → H1[q]? = H[q]?) (hF : ∀ q, va_A wc H.size q → A0 q) (hP1 : va_P D cl w1 H1) (hD1 : va_D (va_A wc H.size) w1) (perm : List Nat) (hnd : va_nd perm = true) (hp : perm.map (fun i => (wr ++ w1)[i]?) = ws'.map some) : va_P D cl ws' H1 ∧ va_D A0 ws' := by
  obtain ⟨h1, h2⟩ := va_join hP hD isC isR hC hR hn hdis hk hF hP1 hD1
  refine ⟨h1.sub perm ?_, h2.sub perm hnd hp⟩
  have e : perm.filterMap (fun i => (wr ++ w1)[i]?) = (perm.map (fun i => (wr ++ w1)[i]?)).filterMap id := by
    rw [List.filterMap_map]; rfl
  rw [e, hp, List.filterMap_map]
  exact List.filterMap_some
def strCp : List Nat := [91, 93, 95, 97, 99, 101]
def strTx : List String := ["wall", "passer", "beast", "check", "look", "coach"]
theorem strLen_lt : ∀ i, i < 6 → strLen.getD i 0 < 2 ^ 31 := by decide
/-- the char at a place -/
theorem clsAt {D : va_G} {cl : List vw_C} {tys : List (ClassId × FieldType)} {s : State} (hK : va_K D cl tys s) {ci : Nat} {q : vw_C} (hc : cl[ci]? = some q) : ClassAt s q.1 (D.1 ci) := (hK.1 ci q hc).2
