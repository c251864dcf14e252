/-- i is one of the n numbers from a on -/
def inB (a n i : Nat) : Bool := decide (a ≤ i) && decide (i < a + n)
theorem inB_off {a n i : Nat} (h : inB a n i = true) : ∃ j : Nat, j < n ∧ i = a + j := by
  simp only [inB, Bool.and_eq_true, decide_eq_true_eq] at h
  exact ⟨i - a, by omega, by omega⟩
theorem offB (a j : Nat) : a + j - a = j := by omega
section MORE
variable {p : Program} {l : Launch} {e : Env} {R : Room} {s : State} {m : MethodId} {args : Array Value} {below : List Frame} {meth : Method} {c : Code} {wd : WD} {own : String} {cc : ByteArray} {nL : Nat} {ret : Option FieldType} {QF : Ou → State → Prop} {nc nw pc : Nat} {F G : Fn}
/-! Math.max, Math.min, System.arraycopy over ints -/
def i_max (F : Fn) : Fn := fun L S h => match S with
  | .int y :: .int x :: S => if (S.map fun v => v.category).sum ≤ 8 then F L (.int (if x < y then y else x) :: S) h else none
  | _ => none
def i_min (F : Fn) : Fn := fun L S h => match S with
  | .int y :: .int x :: S => if (S.map fun v => v.category).sum ≤ 8 then F L (.int (if y < x then y else x) :: S) h else none
  | _ => none
def rm1 (R : Room) : Prop := 1 ≤ R.frames ∧ 40 ≤ R.locals
set_option maxRecDepth 100000 in
theorem mathW : Cond.static Lib.Math.max.name ∈ TS ∧ Cond.initialized "java/lang/Math" ∈ TS ∧ Cond.code Lib.Math.max.name Lib.Math.max.code 2 (some .int) ∈ TS ∧ Cond.static Lib.Math.min.name ∈ TS ∧ Cond.code Lib.Math.min.name Lib.Math.min.code 2 (some .int) ∈ TS := ⟨(in_TS 630 (by decide +kernel) rfl), (in_TS 128 (by decide +kernel) rfl), (in_T1 516 rfl rfl), (in_TS 638 (by decide +kernel) rfl), (in_T1 524 rfl rfl)⟩
theorem sn_max (A : Act p l s m args meth c wd own cc nL ret) (hR : rm1 R) {index : Nat} (hl : Cond.methodLink own index Lib.Math.max.name ∈ TS) (d : decode cc pc = .ok (.invokestatic index, 3)) (k : Snd p l e R s m args below meth c wd nL QF nc nw (pc + 3) F) : Snd p l e R s m args below meth c wd nL QF nc nw pc (i_max F) := by
  intro L S h o H locs cells slots ls hf hn hL hP hS h1 h2
  unfold i_max at hf
  split at hf
  · split at hf
    · next y x S1 hc => exact va_mmax A.exA A.ccA (A.mlA.trans hL.1.symm) A.ownA (A.tsA _ hl) (A.tsA _ mathW.1) (A.tsA _ mathW.2.1) (A.tsA _ mathW.2.2.1) hR.1 (by rw [cv_sum]; have := hR.2; omega) (by omega) (by omega) d (k L _ h o H locs cells slots ls hf hn hL hP hS h1 h2)
    · cases hf
  · cases hf
theorem sn_min (A : Act p l s m args meth c wd own cc nL ret) (hR : rm1 R) {index : Nat} (hl : Cond.methodLink own index Lib.Math.min.name ∈ TS) (d : decode cc pc = .ok (.invokestatic index, 3)) (k : Snd p l e R s m args below meth c wd nL QF nc nw (pc + 3) F) : Snd p l e R s m args below meth c wd nL QF nc nw pc (i_min F) := by
  intro L S h o H locs cells slots ls hf hn hL hP hS h1 h2
  unfold i_min at hf
  split at hf
  · split at hf
    · next y x S1 hc => exact va_mmin A.exA A.ccA (A.mlA.trans hL.1.symm) A.ownA (A.tsA _ hl) (A.tsA _ mathW.2.2.2.1) (A.tsA _ mathW.2.1) (A.tsA _ mathW.2.2.2.2) hR.1 (by rw [cv_sum]; have := hR.2; omega) (by omega) (by omega) d (k L _ h o H locs cells slots ls hf hn hL hP hS h1 h2)
    · cases hf
  · cases hf
theorem copyW : Cond.native arraycopyName ∈ TS ∧ Cond.static arraycopyName ∈ TS ∧ Cond.initialized "java/lang/System" ∈ TS := ⟨(in_TS 1162 (by decide +kernel) rfl), (in_TS 1161 (by decide +kernel) rfl), (in_TS 142 (by decide +kernel) rfl)⟩
def i_acopy (F : Fn) : Fn := fun L S h => match S with
  | .int n :: .int dp :: .ref b :: .int sp :: .ref a :: S => if gX h = 1 ∧ (S.map fun v => v.category).sum ≤ 8 ∧ (sh a).1 = 1 ∧ a < gN h ∧ (sh b).1 = 1 ∧ b < gN h ∧ ¬ sp < 0 ∧ ¬ dp < 0 ∧ ¬ n < 0 ∧ sp.toNatClampNeg + n.toNatClampNeg ≤ (sh a).2 ∧ dp.toNatClampNeg + n.toNatClampNeg ≤ (sh b).2 then F L S (cpI h a sp.toNatClampNeg b dp.toNatClampNeg n.toNatClampNeg) else none
  | _ => none
theorem sn_acopy (A : Act p l s m args meth c wd own cc nL ret) (hR : rm1 R) {index : Nat} (hl : Cond.methodLink own index arraycopyName ∈ TS) (d : decode cc pc = .ok (.invokestatic index, 3)) (k : Snd p l e R s m args below meth c wd nL QF nc nw (pc + 3) F) : Snd p l e R s m args below meth c wd nL QF nc nw pc (i_acopy F) := by
  intro L S h o H locs cells slots ls hf hn hL hP hS h1 h2
  unfold i_acopy at hf
  split at hf
  · split at hf
    · next n dp b sp a S1 hc =>
      obtain ⟨hX, hcat, ha1, ha2, hb1, hb2, q1, q2, q3, q4, q5⟩ := hc
      have he0 := wsO_get wd h ha2
      rw [ent_i (sh_pair ha1)] at he0
      have he1 := wsO_get wd h hb2
      rw [ent_i (sh_pair hb1)] at he1
      refine va_copyi A.exA A.ccA (A.mlA.trans hL.1.symm) A.ownA (A.tsA _ hl) (A.tsA _ copyW.1) (A.tsA _ copyW.2.1) (A.tsA _ copyW.2.2) A.kkA.kK hP.1 (A.D hP) hS a b 0 0 he0 he1 rfl rfl rfl q1 q2 q3 q4 q5 (fun _ _ => rfl) hR.1 (by
        rw [cv_sum]
        have := hR.2
        have e9 : nativeFrameWords "java/lang/System" "arraycopy" 5 ≤ 20 := by decide +kernel
        omega) d (fun H1 locs1 g1 _ g2 => ?_)
      have hset : (wsO wd h).set b (wd.2.1 b, .inl (wd.2.2.2 0, (sh b).2, .inl (va_cpy (gI h a) (gI h b) sp.toNatClampNeg dp.toNatClampNeg n.toNatClampNeg))) = wsO wd (cpI h a sp.toNatClampNeg b dp.toNatClampNeg n.toNatClampNeg) := by
        refine wsO_set rfl ?_ (fun j hj => ent_cong ?_ rfl rfl)
        · rw [ent_i (sh_pair hb1)]
          have e1 : gI (cpI h a sp.toNatClampNeg b dp.toNatClampNeg n.toNatClampNeg) b = va_cpy (gI h a) (gI h b) sp.toNatClampNeg dp.toNatClampNeg n.toNatClampNeg := by
            funext q
            simp [gI, cpI, va_cpy]
          rw [e1]
        · funext q
          simp [gI, cpI, hj]
      rw [hset] at g1
      exact k L _ _ o H1 locs1 cells slots ls hf hn hL ⟨g1, hP.2.1, fun z => absurd (show gX h = 0 from z) (by omega)⟩ g2 h1 h2
    · cases hf
  · cases hf
/-! the enum's constants -/
theorem sn_getTok (A : Act p l s m args meth c wd own cc nL ret) {index i : Nat} {nm : String} (d : decode cc pc = .ok (.getstatic index, 3)) (hi : i < 26) (hnm : tokNm.getD i "" = nm) (hl : Cond.fieldLink own index RX9 nm "LDrillPlanner$Token;" ∈ TS) (k : Snd p l e R s m args below meth c wd nL QF nc nw (pc + 3) F) : Snd p l e R s m args below meth c wd nL QF nc nw pc (i_push (.ref (1000 + i)) F) := by
  intro L S h o H locs cells slots ls hf hn hL hP hS h1 h2
  have hZ := (A.kkA.sfK.1.1 i hi).1
  rw [hnm] at hZ
  exact va_gets A.exA A.ccA hZ hS A.ownA (A.tsA _ hl) (fun _ h => h) d (k L _ h o H locs cells slots ls hf hn hL hP hS h1 h2)
theorem sn_getAll (A : Act p l s m args meth c wd own cc nL ret) {index : Nat} (d : decode cc pc = .ok (.getstatic index, 3)) (hl : Cond.fieldLink own index RX10 "ALL_SORTS" "[LDrillPlanner$Token;" ∈ TS) (k : Snd p l e R s m args below meth c wd nL QF nc nw (pc + 3) F) : Snd p l e R s m args below meth c wd nL QF nc nw pc (i_push (.ref 1100) F) := by
  intro L S h o H locs cells slots ls hf hn hL hP hS h1 h2
  exact va_gets A.exA A.ccA A.kkA.sfK.2.2.1 hS A.ownA (A.tsA _ hl) (fun _ h => h) d (k L _ h o H locs cells slots ls hf hn hL hP hS h1 h2)
def i_alenT (F : Fn) : Fn := fun L S h => match S with
  | .ref i :: S => if i = 1100 then F L (.int 26 :: S) h else none
  | _ => none
theorem sn_alenT (A : Act p l s m args meth c wd own cc nL ret) (d : decode cc pc = .ok (.arraylength, 1)) (k : Snd p l e R s m args below meth c wd nL QF nc nw (pc + 1) F) : Snd p l e R s m args below meth c wd nL QF nc nw pc (i_alenT F) := by
  intro L S h o H locs cells slots ls hf hn hL hP hS h1 h2
  unfold i_alenT at hf
  split at hf
  · split at hf
    · next i S1 hi =>
      subst hi
      exact va_tlen A.exA A.ccA A.kkA.sfK.2.2.2.1 hS rfl d (k L _ h o H locs cells slots ls hf hn hL hP hS h1 h2)
    · cases hf
  · cases hf
def i_aaloadT (F : Fn) : Fn := fun L S h => match S with
  | .int j :: .ref i :: S => if i = 1100 ∧ ¬ j < 0 ∧ j.toNatClampNeg < 26 then F L (.ref (1000 + j.toNatClampNeg) :: S) h else none
  | _ => none
theorem sn_aaloadT (A : Act p l s m args meth c wd own cc nL ret) (d : decode cc pc = .ok (.aaload, 1)) (k : Snd p l e R s m args below meth c wd nL QF nc nw (pc + 1) F) : Snd p l e R s m args below meth c wd nL QF nc nw pc (i_aaloadT F) := by
  intro L S h o H locs cells slots ls hf hn hL hP hS h1 h2
  unfold i_aaloadT at hf
  split at hf
  · split at hf
    · next j i S1 hi =>
      obtain ⟨rfl, hi⟩ := hi
      exact vb_tq A.exA A.ccA A.kkA.sfK.2.2.2.1 hS (vp_in_of2 hi) rfl d (k L _ h o H locs cells slots ls hf hn hL hP hS h1 h2)
    · cases hf
  · cases hf
def i_tokLim (F : Fn) : Fn := fun L S h => match S with
  | .ref i :: S => if inB 1000 26 i = true then F L (.int (tokLim.getD (i - 1000) 0) :: S) h else none
  | _ => none
theorem sn_tokLim (A : Act p l s m args meth c wd own cc nL ret) {index : Nat} (d : decode cc pc = .ok (.getfield index, 3)) (hl : Cond.fieldLink own index RX9 "limit" "I" ∈ TS) (k : Snd p l e R s m args below meth c wd nL QF nc nw (pc + 3) F) : Snd p l e R s m args below meth c wd nL QF nc nw pc (i_tokLim F) := by
  intro L S h o H locs cells slots ls hf hn hL hP hS h1 h2
  unfold i_tokLim at hf
  split at hf
  · split at hf
    · next i S1 hi =>
      obtain ⟨j, hj, rfl⟩ := inB_off hi
      rw [offB] at hf
      exact va_getE (ad := fun i => wd.2.1 (1000 + i)) (i := j) A.exA A.ccA A.kkA.sfK.1 hj hS A.ownA (q := (RX9, "limit", "I", tokLim)) List.mem_cons_self (A.tsA _ hl) (fun _ h => h) d (k L _ h o H locs cells slots ls hf hn hL hP hS h1 h2)
    · cases hf
  · cases hf
def i_tokTx (F : Fn) : Fn := fun L S h => match S with
  | .ref i :: S => if inB 1000 26 i = true then F L (.ref (2000 + tokTx.getD (i - 1000) 0) :: S) h else none
  | _ => none
theorem sn_tokTx (A : Act p l s m args meth c wd own cc nL ret) {index : Nat} (d : decode cc pc = .ok (.getfield index, 3)) (hl : Cond.fieldLink own index RX9 "text" "Ljava/lang/String;" ∈ TS) (k : Snd p l e R s m args below meth c wd nL QF nc nw (pc + 3) F) : Snd p l e R s m args below meth c wd nL QF nc nw pc (i_tokTx F) := by
  intro L S h o H locs cells slots ls hf hn hL hP hS h1 h2
  unfold i_tokTx at hf
  split at hf
  · split at hf
    · next i S1 hi =>
      obtain ⟨j, hj, rfl⟩ := inB_off hi
      rw [offB] at hf
      exact va_getX (v := fun i => .ref (wd.2.1 (2000 + tokTx.getD i 0))) (ad := fun i => wd.2.1 (1000 + i)) (i := j) A.exA A.ccA A.kkA.sfK.2.1 hj hS A.ownA (A.tsA _ hl) (fun _ h => h) d (k L _ h o H locs cells slots ls hf hn hL hP hS h1 h2)
    · cases hf
  · cases hf
/-- null or a constant of the enum -/
def tkO : Value → Option (Option Nat)
  | .null => some none
  | .ref i => if inB 1000 26 i = true then some (some i) else none
  | _ => none
def i_acne (F G : Fn) : Fn := fun L S h => match S with
  | v :: w :: S => match tkO w, tkO v with
    | some x, some y => if x = y then G L S h else F L S h
    | _, _ => none
  | _ => none
def i_aceq (F G : Fn) : Fn := fun L S h => match S with
  | v :: w :: S => match tkO w, tkO v with
    | some x, some y => if x = y then F L S h else G L S h
    | _, _ => none
  | _ => none
theorem tkO_cv {v : Value} {x : Option Nat} (hv : tkO v = some x) : cv wd v = va_rf (x.map wd.2.1) := by
  cases v <;> simp only [tkO] at hv <;> first | (cases hv; done) | (cases hv; rfl) | skip
  split at hv
  · cases hv; rfl
  · cases hv
theorem tkO_in {v : Value} {i : Nat} (hv : tkO v = some (some i)) : inB 1000 26 i = true := by
  cases v <;> simp only [tkO] at hv <;> first | (cases hv; done) | skip
  split at hv
  · cases hv; assumption
  · cases hv
theorem tkO_inj (A : Act p l s m args meth c wd own cc nL ret) {v w : Value} {x y : Option Nat} (hv : tkO v = some x) (hw : tkO w = some y) : x.map wd.2.1 = y.map wd.2.1 ↔ x = y := by
  constructor
  · intro h
    cases x with
    | none => cases y with
      | none => rfl
      | some b => cases h
    | some a => cases y with
      | none => cases h
      | some b =>
        have h9 := Option.some.inj h
        obtain ⟨j, hj, rfl⟩ := inB_off (tkO_in hv)
        obtain ⟨k, hk, rfl⟩ := inB_off (tkO_in hw)
        have := A.kkA.sfK.1.2 j k hj hk h9
        rw [this]
  · intro h; rw [h]
theorem sn_acne (A : Act p l s m args meth c wd own cc nL ret) {off : Int} {tgt : Nat} (d : decode cc pc = .ok (.if_acmp .ne off, 3)) (ht : (pc : Int) + off = (tgt : Int)) (k : Snd p l e R s m args below meth c wd nL QF nc nw tgt F) (k2 : Snd p l e R s m args below meth c wd nL QF nc nw (pc + 3) G) : Snd p l e R s m args below meth c wd nL QF nc nw pc (i_acne F G) := by
  intro L S h o H locs cells slots ls hf hn hL hP hS h1 h2
  unfold i_acne at hf
  split at hf
  · split at hf
    · next v w S1 _ _ x y hx hy =>
      show W p l e R s m args below meth c H locs cells slots (QF o) (F0 m pc ls (cv wd v :: cv wd w :: S1.map (cv wd)))
      rw [tkO_cv hx, tkO_cv hy]
      refine lv_acmp_ne A.exA A.ccA d ht (fun hc => ?_) (fun hc => ?_)
      · rw [tkO_inj A hx hy] at hc
        rw [if_neg hc] at hf
        exact k L _ h o H locs cells slots ls hf hn hL hP hS h1 h2
      · rw [tkO_inj A hx hy] at hc
        rw [if_pos hc] at hf
        exact k2 L _ h o H locs cells slots ls hf hn hL hP hS h1 h2
    · cases hf
  · cases hf
theorem sn_aceq (A : Act p l s m args meth c wd own cc nL ret) {off : Int} {tgt : Nat} (d : decode cc pc = .ok (.if_acmp .eq off, 3)) (ht : (pc : Int) + off = (tgt : Int)) (k : Snd p l e R s m args below meth c wd nL QF nc nw tgt F) (k2 : Snd p l e R s m args below meth c wd nL QF nc nw (pc + 3) G) : Snd p l e R s m args below meth c wd nL QF nc nw pc (i_aceq F G) := by
  intro L S h o H locs cells slots ls hf hn hL hP hS h1 h2
  unfold i_aceq at hf
  split at hf
  · split at hf
    · next v w S1 _ _ x y hx hy =>
      show W p l e R s m args below meth c H locs cells slots (QF o) (F0 m pc ls (cv wd v :: cv wd w :: S1.map (cv wd)))
      rw [tkO_cv hx, tkO_cv hy]
      refine lv_acmp_eq A.exA A.ccA d ht (fun hc => ?_) (fun hc => ?_)
      · rw [tkO_inj A hx hy] at hc
        rw [if_pos hc] at hf
        exact k L _ h o H locs cells slots ls hf hn hL hP hS h1 h2
      · rw [tkO_inj A hx hy] at hc
        rw [if_neg hc] at hf
        exact k2 L _ h o H locs cells slots ls hf hn hL hP hS h1 h2
    · cases hf
  · cases hf
def i_ifnn (F G : Fn) : Fn := fun L S h => match S with
  | .ref _ :: S => F L S h
  | .null :: S => G L S h
  | _ => none
theorem sn_ifnn (A : Act p l s m args meth c wd own cc nL ret) {off : Int} {tgt : Nat} (d : decode cc pc = .ok (.ifnonnull off, 3)) (ht : (pc : Int) + off = (tgt : Int)) (k : Snd p l e R s m args below meth c wd nL QF nc nw tgt F) (k2 : Snd p l e R s m args below meth c wd nL QF nc nw (pc + 3) G) : Snd p l e R s m args below meth c wd nL QF nc nw pc (i_ifnn F G) := by
  intro L S h o H locs cells slots ls hf hn hL hP hS h1 h2
  unfold i_ifnn at hf
  split at hf
  · exact lv_ifnonnull A.exA A.ccA d ht (k L _ h o H locs cells slots ls hf hn hL hP hS h1 h2)
  · exact lv_ifnonnullN A.exA A.ccA d (k2 L _ h o H locs cells slots ls hf hn hL hP hS h1 h2)
  · cases hf
/-- a constant goes into the row of constants -/
def i_aastore (F : Fn) : Fn := fun L S h => match S with
  | .ref v :: .int j :: .ref i :: S => if inB 1000 26 v = true ∧ (sh i).1 = 4 ∧ i < gN h ∧ gX h = 1 ∧ ¬ j < 0 ∧ j.toNatClampNeg < (sh i).2 then F L S (sR h i j.toNatClampNeg (some v)) else none
  | _ => none
theorem sn_aastore (A : Act p l s m args meth c wd own cc nL ret) (d : decode cc pc = .ok (.aastore, 1)) (k : Snd p l e R s m args below meth c wd nL QF nc nw (pc + 1) F) : Snd p l e R s m args below meth c wd nL QF nc nw pc (i_aastore F) := by
  intro L S h o H locs cells slots ls hf hn hL hP hS h1 h2
  unfold i_aastore at hf
  split at hf
  · split at hf
    · next v j i S1 hi =>
      obtain ⟨hv, hi1, hi2, hX, hi3⟩ := hi
      have he := wsO_get wd h hi2
      rw [ent_q (sh_pair hi1)] at he
      obtain ⟨z, hz, rfl⟩ := inB_off hv
      have hany : va_Any RX9 s H (wd.2.1 (1000 + z)) := by
        obtain ⟨cell, g1, g2, g3, -⟩ := (A.kkA.sfK.1.1 z hz).2.1.kept hS.2.1
        obtain ⟨kC, hkC, -⟩ := Vm.findClass_spec g3
        refine ⟨cell, g1, g2, ⟨kC, hkC⟩, fun comp hc => ?_⟩
        cases g3.symm.trans hc
        exact va_asg _ _
      refine va_astqM A.exA A.ccA A.kkA.kK hP.1 (A.D hP) hS i 3 he rfl hany (vp_in_of2 hi3) d (fun H1 locs1 g1 _ g2 => ?_)
      have hset : (wsO wd h).set i (wd.2.1 i, .inl (wd.2.2.2 3, (sh i).2, .inr (.inr (.inr (.inr (va_up (fun j => (gR h i j).map wd.2.1) j.toNatClampNeg (some (wd.2.1 (1000 + z))))))))) = wsO wd (sR h i j.toNatClampNeg (some (1000 + z))) := by
        refine wsO_set rfl ?_ (fun q hq => ent_sR_ne hq)
        rw [ent_q (sh_pair hi1), up_sR]
        refine congrArg (fun z : Nat → Option Nat => (Sum.inl (wd.2.2.2 3, (sh i).2, Sum.inr (Sum.inr (Sum.inr (Sum.inr z)))) : va_E)) ?_
        funext q
        by_cases hq : q = j.toNatClampNeg
        · subst hq; simp [va_up]
        · simp [va_up, hq]
      rw [hset] at g1
      exact k L _ _ o H1 locs1 cells slots ls hf hn hL ⟨g1, hP.2.1, fun z => absurd (show gX h = 0 from z) (by omega)⟩ g2 h1 h2
    · cases hf
  · cases hf
/-! texts -/
theorem sn_ldcS (A : Act p l s m args meth c wd own cc nL ret) {index k : Nat} {tx : String} (d : decode cc pc = .ok (.ldc index, 2)) (hw : (own, index, tx, k) ∈ txRefs) (kk : Snd p l e R s m args below meth c wd nL QF nc nw (pc + 2) F) : Snd p l e R s m args below meth c wd nL QF nc nw pc (i_push (.ref (2000 + k)) F) := by
  intro L S h o H locs cells slots ls hf hn hL hP hS h1 h2
  exact va_ldcS A.exA A.ccA A.ownA (A.kkA.txK _ hw) d (kk L _ h o H locs cells slots ls hf hn hL hP hS h1 h2)
theorem sn_ldcwS (A : Act p l s m args meth c wd own cc nL ret) {index k : Nat} {tx : String} (d : decode cc pc = .ok (.ldc_w index, 3)) (hw : (own, index, tx, k) ∈ txRefs) (kk : Snd p l e R s m args below meth c wd nL QF nc nw (pc + 3) F) : Snd p l e R s m args below meth c wd nL QF nc nw pc (i_push (.ref (2000 + k)) F) := by
  intro L S h o H locs cells slots ls hf hn hL hP hS h1 h2
  have hZ := A.kkA.txK _ hw
  intro T hT X
  obtain ⟨t, a1, b1⟩ := kk L _ h o H locs cells slots ls hf hn hL hP hS h1 h2 T hT X
  exact ⟨t, X.ldcStringW A.exA A.ownA (text := tx) (a := wd.2.1 (2000 + k)) hZ.1 hZ.2 (g := F0 m pc ls (S.map (cv wd))) rfl (by rw [A.ccA]; exact d) t a1, b1⟩
/-- the fields of a text, its row -/
def i_strVal (F : Fn) : Fn := fun L S h => match S with
  | .ref i :: S => if inB 2000 txN i = true then F L (.ref (i + 1000) :: S) h else none
  | _ => none
def i_strCod (F : Fn) : Fn := fun L S h => match S with
  | .ref i :: S => if inB 2000 txN i = true then F L (.int 0 :: S) h else none
  | _ => none
theorem sn_strVal (A : Act p l s m args meth c wd own cc nL ret) {index : Nat} (d : decode cc pc = .ok (.getfield index, 3)) (hl : Cond.fieldLink own index RJ0 "value" "[B" ∈ TS) (k : Snd p l e R s m args below meth c wd nL QF nc nw (pc + 3) F) : Snd p l e R s m args below meth c wd nL QF nc nw pc (i_strVal F) := by
  intro L S h o H locs cells slots ls hf hn hL hP hS h1 h2
  unfold i_strVal at hf
  split at hf
  · split at hf
    · next i S1 hi =>
      obtain ⟨j, hj, rfl⟩ := inB_off hi
      rw [show 2000 + j + 1000 = 3000 + j by omega] at hf
      exact vk_getf A.exA A.ccA (A.kkA.sfK.2.2.2.2.1.1 j hj).2.2.1 hS A.ownA (A.tsA _ hl) (fun _ h => h) d (k L _ h o H locs cells slots ls hf hn hL hP hS h1 h2)
    · cases hf
  · cases hf
theorem sn_strCod (A : Act p l s m args meth c wd own cc nL ret) {index : Nat} (d : decode cc pc = .ok (.getfield index, 3)) (hl : Cond.fieldLink own index RJ0 "coder" "B" ∈ TS) (k : Snd p l e R s m args below meth c wd nL QF nc nw (pc + 3) F) : Snd p l e R s m args below meth c wd nL QF nc nw pc (i_strCod F) := by
  intro L S h o H locs cells slots ls hf hn hL hP hS h1 h2
  unfold i_strCod at hf
  split at hf
  · split at hf
    · next i S1 hi =>
      obtain ⟨j, hj, rfl⟩ := inB_off hi
      exact vk_getf A.exA A.ccA (A.kkA.sfK.2.2.2.2.1.1 j hj).2.1 hS A.ownA (A.tsA _ hl) (fun _ h => h) d (k L _ h o H locs cells slots ls hf hn hL hP hS h1 h2)
    · cases hf
  · cases hf
def i_strLen (F : Fn) : Fn := fun L S h => match S with
  | .ref i :: S => if inB 3000 txN i = true then F L (.int (Int32.ofNat (txLen.getD (i - 3000) 0)) :: S) h else none
  | _ => none
theorem sn_strLen (A : Act p l s m args meth c wd own cc nL ret) (d : decode cc pc = .ok (.arraylength, 1)) (k : Snd p l e R s m args below meth c wd nL QF nc nw (pc + 1) F) : Snd p l e R s m args below meth c wd nL QF nc nw pc (i_strLen F) := by
  intro L S h o H locs cells slots ls hf hn hL hP hS h1 h2
  unfold i_strLen at hf
  split at hf
  · split at hf
    · next i S1 hi =>
      obtain ⟨j, hj, rfl⟩ := inB_off hi
      rw [offB] at hf
      exact va_tlen A.exA A.ccA (A.kkA.sfK.2.2.2.2.1.1 j hj).2.2.2 hS rfl d (k L _ h o H locs cells slots ls hf hn hL hP hS h1 h2)
    · cases hf
  · cases hf
def i_strAt (F : Fn) : Fn := fun L S h => match S with
  | .int z :: .ref i :: S => if inB 3000 txN i = true ∧ ¬ z < 0 ∧ z.toNatClampNeg < txLen.getD (i - 3000) 0 then F L (.int ((txByt.getD (i - 3000) []).getD z.toNatClampNeg 0) :: S) h else none
  | _ => none
theorem sn_strAt (A : Act p l s m args meth c wd own cc nL ret) (d : decode cc pc = .ok (.baload, 1)) (k : Snd p l e R s m args below meth c wd nL QF nc nw (pc + 1) F) : Snd p l e R s m args below meth c wd nL QF nc nw pc (i_strAt F) := by
  intro L S h o H locs cells slots ls hf hn hL hP hS h1 h2
  unfold i_strAt at hf
  split at hf
  · split at hf
    · next z i S1 hi =>
      obtain ⟨hi, hi9⟩ := hi
      obtain ⟨j, hj, rfl⟩ := inB_off hi
      rw [offB] at hf hi9
      exact va_tb A.exA A.ccA (A.kkA.sfK.2.2.2.2.1.1 j hj).2.2.2 hS (vp_in_of2 hi9) rfl d (k L _ h o H locs cells slots ls hf hn hL hP hS h1 h2)
    · cases hf
  · cases hf
theorem sn_compact (A : Act p l s m args meth c wd own cc nL ret) {index : Nat} (d : decode cc pc = .ok (.getstatic index, 3)) (hl : Cond.fieldLink own index RJ0 "COMPACT_STRINGS" "Z" ∈ TS) (k : Snd p l e R s m args below meth c wd nL QF nc nw (pc + 3) F) : Snd p l e R s m args below meth c wd nL QF nc nw pc (i_push (.int 1) F) := by
  intro L S h o H locs cells slots ls hf hn hL hP hS h1 h2
  exact va_gets A.exA A.ccA A.kkA.sfK.2.2.2.2.2.2.2.1 hS A.ownA (A.tsA _ hl) (fun _ h => h) d (k L _ h o H locs cells slots ls hf hn hL hP hS h1 h2)
end MORE
