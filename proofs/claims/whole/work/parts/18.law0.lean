section LAW
variable {p : Program} {l : Launch} {e : Env} {R : Room} {s : State} {m : MethodId} {args : Array Value} {below : List Frame} {meth : Method} {c : Code} {wd : WD} {own : String} {cc : ByteArray} {nL : Nat} {ret : Option FieldType} {QF : Ou → State → Prop} {nc nw9 pc : Nat} {F G : Fn}
/-! methods with handlers -/
def NcX (U : State) : Prop := va_Nc "java/lang/IllegalArgumentException" "java/lang/IndexOutOfBoundsException" U
def CTW (l : Launch) (wd : WD) (y : MethodName) (bytes : ByteArray) (maxL : Nat) (ret : Option FieldType) (hh : List (Nat × Nat × Nat × Nat)) (d mc ms : Nat) (f : List Value → AH → Option Ou) : Prop :=
  ∀ (av : List Value) (h : AH) (o : Ou), f av h = some o → vx_Met l y (Cond.codeWith y bytes maxL ret hh :: TS) (rmO d mc ms) (va_Pc (av.map (cv wd)) (fun U => PH wd h U.heap ∧ KK l wd U ∧ NcX U)) (QcO wd o) (XcO wd o) mc ms (AO wd)
theorem CTW.of {l : Launch} {wd : WD} {y : MethodName} {bytes : ByteArray} {nL : Nat} {ret : Option FieldType} {hh : List (Nat × Nat × Nat × Nat)} {d mc ms : Nat} {f : List Value → AH → Option Ou} {F : Fn} (hy : plainName y.cls = true)
    (hf : ∀ av h o, f av h = some o → (entA av).length ≤ nL ∧ F (entL nL av) [] h = some o)
    (body : ∀ (p : Program) (e : Env) (s : State) (m : MethodId) (args : Array Value) (below : List Frame) (meth : Method) (c : Code), Act p l s m args meth c wd y.cls bytes nL ret → NcX s → c.exceptionTable.toList = tableOf hh →
      Snd p l e (rmO d mc ms) s m args below meth c wd nL (QO below wd args s mc ms) mc ms 0 F) : CTW l wd y bytes nL ret hh d mc ms f := by
  intro av h o hfo
  obtain ⟨hn, hF⟩ := hf av h o hfo
  refine vx_ofWH (cc := bytes) (maxL := nL) (ret := ret) (hh := hh) (ws' := TS) hy rfl ?_
  intro p e s m args below meth c s₁ B hml hv
  obtain ⟨rfl, hP, hK, hN⟩ := hv
  have hw0 := atoms_spec (ws := Cond.codeWith y bytes nL ret hh :: TS) B.pre
  have hts : ∀ w ∈ TS, w.before (av.map (cv wd)).toArray s = true := fun w hw => hw0 w (List.mem_cons_of_mem _ hw)
  have A : Act p l s m (av.map (cv wd)).toArray meth c wd y.cls bytes nL ret := ⟨B.exec, B.bytes, hml, findClass_of_methodNamed B.named, B.returns, B.notSynchronized, hts, hK⟩
  have ht := vx_table (x := y) B (hw0 _ List.mem_cons_self)
  rw [lg_entry_eq]
  exact body p e s m _ below meth c A hN ht (entL nL av) [] h o s.heap [] 0 0 _ hF (entL_len av hn) (entL_LR wd av hn) hP va_S.rf (by simp [rmO]) (by simp [rmO])
/-- a local is forgotten -/
theorem LR.drop {nL : Nat} {ls' : Array Slot} {L : Lc} {i : Nat} {v : Value} (hg : lgAt L i = false) (h : lv_has ls' nL ((i, v) :: (asc wd L).filter (fun q => !(q.1 == i) && !(q.1 + 1 == i && q.2.category == 2)))) : LR wd nL ls' (L.set i none) := by
  refine ⟨h.1, h.2.1, fun j w hj => ?_⟩
  rw [List.getElem?_set] at hj
  by_cases e : i = j
  · subst e
    rw [if_pos rfl] at hj
    split at hj <;> cases hj
  · rw [if_neg e] at hj
    refine h.2.2 (j, cv wd w) (List.mem_cons_of_mem _ (List.mem_filter.mpr ⟨asc_mem.mpr ⟨w, hj, rfl⟩, ?_⟩))
    have e1 : (j == i) = false := by simpa using fun z : j = i => e z.symm
    by_cases e2 : j + 1 = i
    · have := lgAt_no (wd := wd) hg e2 hj
      have e3 : ((cv wd w).category == 2) = false := by simpa using this
      simp [e1, e3]
    · have e3 : (j + 1 == i) = false := by simpa using e2
      simp [e1, e3]
def i_callVc (ci n : Nat) (f : List Value → AH → Option Ou) (F : Fn) (hs : Nat → Option (Nat × Fn)) : Fn := fun L S h => match S.drop n with
  | .ref i :: rest => if sh i = (0, ci) ∧ i < gN h ∧ (rest.map fun v => v.category).sum ≤ 8 then
      (match f (.ref i :: (S.take n).reverse) h with
      | some (.inl v, h1) => F L (v.toList ++ rest) h1
      | some (.inr x, h1) => match hs x with
        | some (k, G) => if lgAt L k = false ∧ k < L.length then G (L.set k none) [] h1 else none
        | none => none
      | none => none) else none
  | _ => none
/-- what is known of a handler -/
def HOK (p : Program) (l : Launch) (e : Env) (R : Room) (s : State) (m : MethodId) (args : Array Value) (below : List Frame) (meth : Method) (c : Code) (wd : WD) (own : String) (cc : ByteArray) (nL : Nat) (QF : Ou → State → Prop) (nc nw9 pc : Nat) (x k : Nat) (G : Fn) : Prop :=
  ∃ (pre : List ExceptionTableEntry) (en : ExceptionTableEntry) (suf : List ExceptionTableEntry), c.exceptionTable.toList = pre ++ en :: suf ∧ (∀ z ∈ pre, z.catchType ≠ 0 ∧ ∃ nm : String, Cond.classLink own z.catchType nm ∈ TS ∧ va_Nc (exN x) nm s) ∧ covers en pc = true ∧ en.catchType ≠ 0 ∧ Cond.classLink own en.catchType (exN x) ∈ TS ∧ Cond.castable (exN x) (exN x) ∈ lw_tbl ∧
  ∃ tgt, ((decode cc en.handlerPc = .ok (.astore k, 2) ∧ tgt = en.handlerPc + 2) ∨ ∃ j : Fin 4, (j : Nat) = k ∧ decode cc en.handlerPc = .ok (.astore_n j, 1) ∧ tgt = en.handlerPc + 1) ∧ Snd p l e R s m args below meth c wd nL QF nc nw9 tgt G
theorem sn_callVc {kc kw d maxL index n ci : Nat} {y : MethodName} {bytes : ByteArray} {ry : Option FieldType} {f : List Value → AH → Option Ou} {T : u_T} {N : Nat} {hs : Nat → Option (Nat × Fn)} (A : Act p l s m args meth c wd own cc nL ret)
    (hci : vwCl[ci]? = some (y.cls, T, N)) (M : MF y bytes maxL ry n) (hin : Cond.instanceMethod y ∈ TS) (hse : Cond.selects y.cls y y ∈ TS) (hl : lkM own index y) (C : CT l wd y bytes maxL ry d kc kw f) (hrm : rmOK R d maxL) (hd : decode cc pc = .ok (.invokevirtual index, 3))
    (k : Snd p l e R s m args below meth c wd nL QF nc nw9 (pc + 3) F) (hh : ∀ x k G, hs x = some (k, G) → HOK p l e R s m args below meth c wd own cc nL QF nc nw9 pc x k G) : Snd p l e R s m args below meth c wd nL QF (nc + kc) (nw9 + kw) pc (i_callVc ci n f F hs) := by
  intro L S h o H locs cells slots ls hf hn hL hP hS h1 h2
  unfold i_callVc at hf
  split at hf
  · next i rest hdr =>
    split at hf
    · next hc =>
      have hnl : n ≤ S.length := by
        have := congrArg List.length hdr
        simp at this
        omega
      cases hr0 : f (.ref i :: (S.take n).reverse) h with
      | none => rw [hr0] at hf; cases hf
      | some o1 =>
        rw [hr0] at hf
        have hM := C _ h o1 hr0
        have he := wsO_get wd h hc.2.1
        rw [ent_o hc.1] at he
        have hrc : ∃ cell : Cell, H[wd.2.1 i]? = some cell ∧ cell.vm.isStatics = false ∧ s.vm.findClass y.cls = some cell.cls := by
          have h9 := va_recv A.kkA.kK hP.1 hci he
          exact h9
        have hp : PreV s H y.cls (wd.2.1 i) (va_Pc ((Value.ref i :: (S.take n).reverse).map (cv wd)) (fun U => PH wd h U.heap ∧ KK l wd U)) ((S.take n).reverse.map (cv wd)) := ⟨blind_O, hrc, fun U hU hW => ⟨rfl, by rw [hU]; exact hP, A.into hS hU hW⟩⟩
        have hst2 : (S.map (cv wd)) = ((S.take n).reverse.map (cv wd)).reverse ++ .ref (wd.2.1 i) :: rest.map (cv wd) := by
          rw [← List.map_reverse, List.reverse_reverse, show Value.ref (wd.2.1 i) :: rest.map (cv wd) = (Value.ref i :: rest).map (cv wd) from rfl, ← hdr, ← List.map_append, List.take_append_drop]
        have hcat : 2 * (F0 m pc ls (S.map (cv wd))).monitorRoom + ((rest.map (cv wd)).map fun v => v.category).sum ≤ 8 := lv_room (by rw [cv_sum]; exact hc.2.2)
        have hlen : ((S.take n).reverse.map (cv wd)).length = n := by simp; omega
        have hr : vx_Run p l e R s m args below meth c H locs cells slots kc kw (F0 m pc ls (S.map (cv wd))) (rest.map (cv wd)) (QcO wd o1 (Value.ref (wd.2.1 i) :: (S.take n).reverse.map (cv wd)).toArray) (XcO wd o1) (AO wd) := by
          rcases hl with hl | ⟨host, hl⟩
          · exact vx_runV A.fix hM ⟨⟨rfl, rfl, hrm.1, hrm.2, A.pay M.1, List.mem_cons_self, A.tsA _ M.1, A.tsA _ M.2.1, M.2.2.1, M.len, A.tsA _ hl⟩, A.tsA _ hin, A.tsA _ hse⟩ hp rfl hlen hL.1 hst2 hcat hd ⟨by omega, by omega⟩
          · exact vx_runVN A.fix hM ⟨⟨⟨rfl, rfl, hrm.1, hrm.2, A.pay M.1, List.mem_cons_self⟩, A.tsA _ M.1, A.tsA _ M.2.1, M.2.2.1, M.len, A.nest hl rfl rfl⟩, A.tsA _ hin, A.tsA _ hse⟩ hp rfl hlen hL.1 hst2 hcat hd ⟨by omega, by omega⟩
        refine run_W hr hS (fun v h1' H1 locs1 e1 g1 g2 => ?_) (fun x h1' H1 locs1 q ce e1 g1 g2 g3 g4 g5 => ?_)
        · subst e1
          rw [map_toList]
          exact k L _ h1' o H1 locs1 (cells + kc) (slots + kw) ls hf hn hL g1 g2 (by omega) (by omega)
        · subst e1
          dsimp only at hf
          cases hx : hs x with
          | none => rw [hx] at hf; cases hf
          | some kG =>
            obtain ⟨k0, G0⟩ := kG
            rw [hx] at hf
            dsimp only at hf
            split at hf
            · next hk =>
              obtain ⟨pre, en, suf, t1, t2, t3, t4, t5, t6, tgt, t7, t8⟩ := hh x k0 G0 hx
              refine vx_catch A.ownA pre en suf t1 (fun z hz => ?_) t3 t4 (A.tsA _ t5) (A.nest t6 rfl rfl) g3 g4 g5 ?_
              · obtain ⟨u1, nm, u2, u3⟩ := t2 z hz
                exact Or.inr ⟨u1, nm, A.tsA _ u2, u3⟩
              · have hLn : k0 < nL := by omega
                rcases t7 with ⟨t7, rfl⟩ | ⟨j, hj, t7, rfl⟩
                · exact lv_astore A.exA A.ccA t7 hL.has hLn rfl (fun ls' hl' => t8 (L.set k0 none) [] h1' o H1 locs1 (cells + kc) (slots + kw) ls' hf (by simpa using hn) (LR.drop hk.1 hl') g1 g2 (by omega) (by omega))
                · exact lv_astore_n A.exA A.ccA t7 hj hL.has hLn rfl (fun ls' hl' => t8 (L.set k0 none) [] h1' o H1 locs1 (cells + kc) (slots + kw) ls' hf (by simpa using hn) (LR.drop hk.1 hl') g1 g2 (by omega) (by omega))
            · cases hf
    · cases hf
  · cases hf
/-! calls that don't throw, whatever is owed at the end -/
def i_afterN (r : Option Ou) (rest : List Value) (F : Fn) (L : Lc) : Option Ou := match r with
  | some (.inl v, h1) => F L (v.toList ++ rest) h1
  | _ => none
theorem W_afterN {kc kw : Nat} {r : Option Ou} {rest : List Value} {L : Lc} {o : Ou} {H : Heap} {locs : List Loc} {cells slots : Nat} {ls : Array Slot} {st0 : List Value} {a : Array Value}
    (k : Snd p l e R s m args below meth c wd nL QF nc nw9 (pc + 3) F) (hf : i_afterN r rest F L = some o) (hn : L.length = nL) (hL : LR wd nL ls L) (hS : va_S (AO wd) s.heap H locs) (h1 : cells + (nc + kc) ≤ R.cells) (h2 : slots + (nw9 + kw) ≤ R.slots)
    (hr : ∀ o1, r = some o1 → vx_Run p l e R s m args below meth c H locs cells slots kc kw (F0 m pc ls st0) (rest.map (cv wd)) (QcO wd o1 a) (XcO wd o1) (AO wd)) :
    W p l e R s m args below meth c H locs cells slots (QF o) (F0 m pc ls st0) := by
  cases hr0 : r with
  | none => rw [hr0] at hf; cases hf
  | some o1 =>
    rw [hr0] at hf
    refine run_W (hr o1 hr0) hS (fun v h1' H1 locs1 e1 g1 g2 => ?_) (fun x h1' H1 locs1 q ce e1 g1 g2 g3 g4 g5 => ?_)
    · subst e1
      rw [map_toList]
      exact k L _ h1' o H1 locs1 (cells + kc) (slots + kw) ls hf hn hL g1 g2 (by omega) (by omega)
    · subst e1
      cases hf
def i_callVN (ci n : Nat) (f : List Value → AH → Option Ou) (F : Fn) : Fn := fun L S h => match S.drop n with
  | .ref i :: rest => if sh i = (0, ci) ∧ i < gN h ∧ (rest.map fun v => v.category).sum ≤ 8 then i_afterN (f (.ref i :: (S.take n).reverse) h) rest F L else none
  | _ => none
theorem sn_callVN {kc kw d maxL index n ci : Nat} {y : MethodName} {bytes : ByteArray} {ry : Option FieldType} {f : List Value → AH → Option Ou} {T : u_T} {N : Nat} (A : Act p l s m args meth c wd own cc nL ret)
    (hci : vwCl[ci]? = some (y.cls, T, N)) (M : MF y bytes maxL ry n) (hin : Cond.instanceMethod y ∈ TS) (hse : Cond.selects y.cls y y ∈ TS) (hl : Cond.methodLink own index y ∈ TS) (C : CT l wd y bytes maxL ry d kc kw f) (hrm : rmOK R d maxL) (hd : decode cc pc = .ok (.invokevirtual index, 3))
    (k : Snd p l e R s m args below meth c wd nL QF nc nw9 (pc + 3) F) : Snd p l e R s m args below meth c wd nL QF (nc + kc) (nw9 + kw) pc (i_callVN ci n f F) := by
  intro L S h o H locs cells slots ls hf hn hL hP hS h1 h2
  unfold i_callVN at hf
  split at hf
  · next i rest hdr =>
    split at hf
    · next hc =>
      have hnl : n ≤ S.length := by
        have := congrArg List.length hdr
        simp at this
        omega
      refine W_afterN (a := (Value.ref (wd.2.1 i) :: (S.take n).reverse.map (cv wd)).toArray) k hf hn hL hS h1 h2 (fun o1 ho1 => ?_)
      have hM := C _ h o1 ho1
      have he := wsO_get wd h hc.2.1
      rw [ent_o hc.1] at he
      have hrc : ∃ cell : Cell, H[wd.2.1 i]? = some cell ∧ cell.vm.isStatics = false ∧ s.vm.findClass y.cls = some cell.cls := by
        have h9 := va_recv A.kkA.kK hP.1 hci he
        exact h9
      have hp : PreV s H y.cls (wd.2.1 i) (va_Pc ((Value.ref i :: (S.take n).reverse).map (cv wd)) (fun U => PH wd h U.heap ∧ KK l wd U)) ((S.take n).reverse.map (cv wd)) := ⟨blind_O, hrc, fun U hU hW => ⟨rfl, by rw [hU]; exact hP, A.into hS hU hW⟩⟩
      have hst2 : (S.map (cv wd)) = ((S.take n).reverse.map (cv wd)).reverse ++ .ref (wd.2.1 i) :: rest.map (cv wd) := by
        rw [← List.map_reverse, List.reverse_reverse, show Value.ref (wd.2.1 i) :: rest.map (cv wd) = (Value.ref i :: rest).map (cv wd) from rfl, ← hdr, ← List.map_append, List.take_append_drop]
      have hcat : 2 * (F0 m pc ls (S.map (cv wd))).monitorRoom + ((rest.map (cv wd)).map fun v => v.category).sum ≤ 8 := lv_room (by rw [cv_sum]; exact hc.2.2)
      have hlen : ((S.take n).reverse.map (cv wd)).length = n := by simp; omega
      exact vx_runV A.fix hM ⟨⟨rfl, rfl, hrm.1, hrm.2, A.pay M.1, List.mem_cons_self, A.tsA _ M.1, A.tsA _ M.2.1, M.2.2.1, M.len, A.tsA _ hl⟩, A.tsA _ hin, A.tsA _ hse⟩ hp rfl hlen hL.1 hst2 hcat hd ⟨by omega, by omega⟩
    · cases hf
  · cases hf
def i_callIN (n : Nat) (f : List Value → AH → Option Ou) (F : Fn) : Fn := fun L S h => match S.drop n with
  | .ref i :: rest => if (rest.map fun v => v.category).sum ≤ 8 then i_afterN (f (.ref i :: (S.take n).reverse) h) rest F L else none
  | _ => none
theorem sn_callIN {kc kw d maxL index n : Nat} {y : MethodName} {bytes : ByteArray} {f : List Value → AH → Option Ou} (A : Act p l s m args meth c wd own cc nL ret)
    (hy : y.name = "<init>") (M : MF y bytes maxL none n) (hin : Cond.instanceMethod y ∈ TS) (hl : Cond.methodLink own index y ∈ TS) (C : CT l wd y bytes maxL none d kc kw f) (hrm : rmOK R d maxL) (hd : decode cc pc = .ok (.invokespecial index, 3))
    (k : Snd p l e R s m args below meth c wd nL QF nc nw9 (pc + 3) F) : Snd p l e R s m args below meth c wd nL QF (nc + kc) (nw9 + kw) pc (i_callIN n f F) := by
  intro L S h o H locs cells slots ls hf hn hL hP hS h1 h2
  unfold i_callIN at hf
  split at hf
  · next i rest hdr =>
    split at hf
    · next hc =>
      have hnl : n ≤ S.length := by
        have := congrArg List.length hdr
        simp at this
        omega
      refine W_afterN (a := (Value.ref (wd.2.1 i) :: (S.take n).reverse.map (cv wd)).toArray) k hf hn hL hS h1 h2 (fun o1 ho1 => ?_)
      have hM := C _ h o1 ho1
      have hp : PreS s H (va_Pc ((Value.ref i :: (S.take n).reverse).map (cv wd)) (fun U => PH wd h U.heap ∧ KK l wd U)) (.ref (wd.2.1 i) :: (S.take n).reverse.map (cv wd)) := ⟨blind_O, fun U hU hW => ⟨rfl, by rw [hU]; exact hP, A.into hS hU hW⟩⟩
      have hst2 : (S.map (cv wd)) = ((S.take n).reverse.map (cv wd)).reverse ++ .ref (wd.2.1 i) :: rest.map (cv wd) := by
        rw [← List.map_reverse, List.reverse_reverse, show Value.ref (wd.2.1 i) :: rest.map (cv wd) = (Value.ref i :: rest).map (cv wd) from rfl, ← hdr, ← List.map_append, List.take_append_drop]
      have hcat : 2 * (F0 m pc ls (S.map (cv wd))).monitorRoom + ((rest.map (cv wd)).map fun v => v.category).sum ≤ 8 := lv_room (by rw [cv_sum]; exact hc)
      have hlen : ((S.take n).reverse.map (cv wd)).length = n := by simp; omega
      exact vx_runI A.fix hM ⟨⟨rfl, rfl, hrm.1, hrm.2, A.pay M.1, List.mem_cons_self, A.tsA _ M.1, A.tsA _ M.2.1, M.2.2.1, M.len, A.tsA _ hl⟩, hy, A.tsA _ hin⟩ hp rfl hlen hL.1 hst2 hcat hd ⟨by omega, by omega⟩
    · cases hf
  · cases hf
def i_callW (n : Nat) (f : List Value → AH → Option Ou) (F : Fn) : Fn := fun L S h =>
  if n ≤ S.length ∧ ((S.drop n).map fun v => v.category).sum ≤ 8 then i_afterN (f (S.take n).reverse h) (S.drop n) F L else none
/-- the facts of a method with handlers -/
def MFW (y : MethodName) (bytes : ByteArray) (maxL : Nat) (ry : Option FieldType) (hh : List (Nat × Nat × Nat × Nat)) (n : Nat) : Prop := Cond.codeWith y bytes maxL ry hh ∈ TS ∧ Cond.initialized y.cls ∈ TS ∧ (y.cls ≠ "java/lang/invoke/MethodHandle" ∧ y.cls ≠ "java/lang/invoke/VarHandle") ∧ (parseMethodDescriptor y.desc).map (fun d => d.parameters.length) = some n ∧ Cond.static y ∈ TS
theorem sn_callW {kc kw d maxL index n : Nat} {y : MethodName} {bytes : ByteArray} {ry : Option FieldType} {hh : List (Nat × Nat × Nat × Nat)} {f : List Value → AH → Option Ou} (A : Act p l s m args meth c wd own cc nL ret) (hNc : NcX s)
    (M : MFW y bytes maxL ry hh n) (hl : Cond.methodLink own index y ∈ TS) (C : CTW l wd y bytes maxL ry hh d kc kw f) (hrm : rmOK R d maxL) (hd : decode cc pc = .ok (.invokestatic index, 3))
    (k : Snd p l e R s m args below meth c wd nL QF nc nw9 (pc + 3) F) : Snd p l e R s m args below meth c wd nL QF (nc + kc) (nw9 + kw) pc (i_callW n f F) := by
  intro L S h o H locs cells slots ls hf hn hL hP hS h1 h2
  unfold i_callW at hf
  split at hf
  · next hc =>
    refine W_afterN (a := ((S.take n).reverse.map (cv wd)).toArray) k hf hn hL hS h1 h2 (fun o1 ho1 => ?_)
    have hM := C _ h o1 ho1
    have hp : PreS s H (va_Pc ((S.take n).reverse.map (cv wd)) (fun U => PH wd h U.heap ∧ KK l wd U ∧ NcX U)) ((S.take n).reverse.map (cv wd)) := by
      refine ⟨fun a U g mk hq => ?_, fun U hU hW => ⟨rfl, by rw [hU]; exact hP, A.into hS hU hW, va_Nc.moved hW.alike hNc⟩⟩
      obtain ⟨q1, q2, q3, q4⟩ := hq
      exact ⟨q1, q2, KK.same (u := U) (U := U.calling g mk a) rfl rfl q3, va_Nc.moved (u := U) (U := U.calling g mk a) (Vm.Alike.refl U.vm) q4⟩
    have hst2 : (S.map (cv wd)) = ((S.take n).reverse.map (cv wd)).reverse ++ (S.drop n).map (cv wd) := by
      rw [← List.map_reverse, List.reverse_reverse, ← List.map_append, List.take_append_drop]
    have hcat : 2 * (F0 m pc ls (S.map (cv wd))).monitorRoom + (((S.drop n).map (cv wd)).map fun v => v.category).sum ≤ 8 := lv_room (by rw [cv_sum]; exact hc.2)
    have hlen : ((S.take n).reverse.map (cv wd)).length = n := by simp; omega
    have hsg : ∀ sig, parseMethodDescriptor y.desc = some sig → n = sig.parameters.length := by
      intro sig h
      have h2 := M.2.2.2.1
      rw [h] at h2
      exact (Option.some.inj h2).symm
    have hpay : ∀ w ∈ (Cond.codeWith y bytes maxL ry hh :: TS), ∀ (a' : Array Value) (U : State), s.WarmedH U.vm → w.before a' U = true := by
      intro w hw a' U hW
      have hw' : w ∈ TS := by
        rcases List.mem_cons.mp hw with h | h
        · rw [h]; exact M.1
        · exact h
      exact word_at hW (good_of_word (List.mem_filter.mp hw').2) (A.tsA w hw')
    exact vx_runSX (hh := hh) A.fix hM ⟨⟨rfl, rfl, hrm.1, hrm.2, hpay, List.mem_cons_self⟩, A.tsA _ M.1, A.tsA _ M.2.1, M.2.2.1, hsg, A.tsA _ hl, A.tsA _ M.2.2.2.2⟩ hp rfl hlen hL.1 hst2 hcat hd ⟨by omega, by omega⟩
  · cases hf
/-! the law's own: its script (the cell 5000), the switch -/
def i_slen (Ls : Nat) (F : Fn) : Fn := fun L S h => match S with
  | .ref i :: S => if i = 5000 then F L (.int (Int32.ofNat Ls) :: S) h else none
  | _ => none
theorem sn_slen (A : Act p l s m args meth c wd own cc nL ret) {Ls : Nat} {xs : Nat → Int32} (hX : va_X (wd.2.1 5000) Ls xs s s.heap) (hb1 : wd.2.1 5000 < s.heap.size) (hb2 : ¬ AO wd (wd.2.1 5000)) (d : decode cc pc = .ok (.arraylength, 1)) (k : Snd p l e R s m args below meth c wd nL QF nc nw9 (pc + 1) F) : Snd p l e R s m args below meth c wd nL QF nc nw9 pc (i_slen Ls F) := by
  intro L S h o H locs cells slots ls hf hn hL hP hS h1 h2
  unfold i_slen at hf
  split at hf
  · split at hf
    · next i S1 hi =>
      subst hi
      exact va_slen A.exA A.ccA hX hb1 hb2 hS d (k L _ h o H locs cells slots ls hf hn hL hP hS h1 h2)
    · cases hf
  · cases hf
def i_sload (Ls : Nat) (xs : Nat → Int32) (F : Fn) : Fn := fun L S h => match S with
  | .int j :: .ref i :: S => if i = 5000 ∧ ¬ j < 0 ∧ j.toNatClampNeg < Ls then F L (.int (xs j.toNatClampNeg) :: S) h else none
  | _ => none
theorem sn_sload (A : Act p l s m args meth c wd own cc nL ret) {Ls : Nat} {xs : Nat → Int32} (hX : va_X (wd.2.1 5000) Ls xs s s.heap) (hb1 : wd.2.1 5000 < s.heap.size) (hb2 : ¬ AO wd (wd.2.1 5000)) (d : decode cc pc = .ok (.iaload, 1)) (k : Snd p l e R s m args below meth c wd nL QF nc nw9 (pc + 1) F) : Snd p l e R s m args below meth c wd nL QF nc nw9 pc (i_sload Ls xs F) := by
  intro L S h o H locs cells slots ls hf hn hL hP hS h1 h2
  unfold i_sload at hf
  split at hf
  · split at hf
    · next j i S1 hi =>
      obtain ⟨rfl, hi⟩ := hi
      exact va_sld A.exA A.ccA hX hb1 hb2 hS (vp_in_of2 hi) d (k L _ h o H locs cells slots ls hf hn hL hP hS h1 h2)
    · cases hf
  · cases hf
def i_tsw (hi : Int32) (Fs : Nat → Fn) (Fd : Fn) : Fn := fun L S h => match S with
  | .int x :: S => if x < 0 ∨ hi < x then Fd L S h else Fs x.toNatClampNeg L S h
  | _ => none
theorem sn_tsw (A : Act p l s m args meth c wd own cc nL ret) {dflt : Int} {offs : Array Int} {len tgd : Nat} {hi : Int} {hi2 : Int32} {hn2 : Nat} {Fs : Nat → Fn} {Fd : Fn} {tg : Nat → Nat} (d : decode cc pc = .ok (.tableswitch dflt 0 hi offs, len)) (hh : hi2.toInt = hi) (hhn : hi = (hn2 : Int)) (htd : (pc : Int) + dflt = (tgd : Int))
    (ht : ∀ j, j ≤ hn2 → ∃ off, offs[j]? = some off ∧ (pc : Int) + off = (tg j : Int)) (kd : Snd p l e R s m args below meth c wd nL QF nc nw9 tgd Fd) (ks : ∀ j, j ≤ hn2 → Snd p l e R s m args below meth c wd nL QF nc nw9 (tg j) (Fs j)) : Snd p l e R s m args below meth c wd nL QF nc nw9 pc (i_tsw hi2 Fs Fd) := by
  intro L S h o H locs cells slots ls hf hn hL hP hS h1 h2
  unfold i_tsw at hf
  split at hf
  · next x S1 =>
    have e0 : x < 0 ↔ x.toInt < 0 := by
      have := Int32.lt_iff_toInt_lt (x := x) (y := 0)
      simpa using this
    have e1 : hi2 < x ↔ hi < x.toInt := by
      have := Int32.lt_iff_toInt_lt (x := hi2) (y := x)
      rw [hh] at this
      exact this
    split at hf
    · next hc =>
      rw [e0, e1] at hc
      exact lv_tableOut A.exA A.ccA d hc htd (kd L _ h o H locs cells slots ls hf hn hL hP hS h1 h2)
    · next hc =>
      rw [e0, e1] at hc
      have hx0 : ¬ x.toInt < 0 := fun z => hc (Or.inl z)
      have hx1 : ¬ hi < x.toInt := fun z => hc (Or.inr z)
      have hj : x.toNatClampNeg ≤ hn2 := by
        show x.toInt.toNat ≤ hn2
        omega
      obtain ⟨off, q1, q2⟩ := ht _ hj
      refine lv_tableIn A.exA A.ccA d hx0 hx1 (off := off) (tgt := tg x.toNatClampNeg) ?_ q2 (ks _ hj L _ h o H locs cells slots ls hf hn hL hP hS h1 h2)
      rw [Int.sub_zero]
      exact q1
  · cases hf
/-- nothing happens: from here on the next cell has no number -/
def i_ghost (F : Fn) : Fn := fun L S h => F L S (xt h)
theorem sn_ghost (k : Snd p l e R s m args below meth c wd nL QF nc nw9 pc F) : Snd p l e R s m args below meth c wd nL QF nc nw9 pc (i_ghost F) := by
  intro L S h o H locs cells slots ls hf hn hL hP hS h1 h2
  exact k L S (xt h) o H locs cells slots ls hf hn hL ⟨hP.1, hP.2.1, fun z => absurd (show (1 : Nat) = 0 from z) (by decide)⟩ hS h1 h2
end LAW
