section OPS
variable {p : Program} {l : Launch} {e : Env} {R : Room} {s : State} {m : MethodId} {args : Array Value} {below : List Frame} {meth : Method} {c : Code} {wd : WD} {own : String} {cc : ByteArray} {nL : Nat} {ret : Option FieldType} {QF : Ou → State → Prop} {nc nw pc : Nat} {F G : Fn}
theorem Snd.weak {a b : Nat} (h1 : nc ≤ a) (h2 : nw ≤ b) (k : Snd p l e R s m args below meth c wd nL QF nc nw pc F) : Snd p l e R s m args below meth c wd nL QF a b pc F := fun L S h o H locs cells slots ls hf hn hL hP hS g1 g2 => k L S h o H locs cells slots ls hf hn hL hP hS (by omega) (by omega)
def i_push (v : Value) (F : Fn) : Fn := fun L S h => F L (v :: S) h
theorem sn_iconst (A : Act p l s m args meth c wd own cc nL ret) {n : Int} {v : Int32} (d : decode cc pc = .ok (.iconst n, 1)) (hv : Int32.ofInt n = v) (k : Snd p l e R s m args below meth c wd nL QF nc nw (pc + 1) F) : Snd p l e R s m args below meth c wd nL QF nc nw pc (i_push (.int v) F) := by
  intro L S h o H locs cells slots ls hf hn hL hP hS h1 h2
  exact lv_iconst A.1 A.2.1 d hv (k L _ h o H locs cells slots ls hf hn hL hP hS h1 h2)
theorem sn_bipush (A : Act p l s m args meth c wd own cc nL ret) {n : Int} {v : Int32} (d : decode cc pc = .ok (.bipush n, 2)) (hv : (Int8.ofInt n).toInt32 = v) (k : Snd p l e R s m args below meth c wd nL QF nc nw (pc + 2) F) : Snd p l e R s m args below meth c wd nL QF nc nw pc (i_push (.int v) F) := by
  intro L S h o H locs cells slots ls hf hn hL hP hS h1 h2
  exact lv_bipush A.1 A.2.1 d hv (k L _ h o H locs cells slots ls hf hn hL hP hS h1 h2)
theorem sn_sipush (A : Act p l s m args meth c wd own cc nL ret) {n : Int} {v : Int32} (d : decode cc pc = .ok (.sipush n, 3)) (hv : (Int16.ofInt n).toInt32 = v) (k : Snd p l e R s m args below meth c wd nL QF nc nw (pc + 3) F) : Snd p l e R s m args below meth c wd nL QF nc nw pc (i_push (.int v) F) := by
  intro L S h o H locs cells slots ls hf hn hL hP hS h1 h2
  exact lv_sipush A.1 A.2.1 d hv (k L _ h o H locs cells slots ls hf hn hL hP hS h1 h2)
theorem sn_lconst (A : Act p l s m args meth c wd own cc nL ret) {n : Fin 2} {v : Int64} (d : decode cc pc = .ok (.lconst n, 1)) (hv : Int64.ofNat (n : Nat) = v) (k : Snd p l e R s m args below meth c wd nL QF nc nw (pc + 1) F) : Snd p l e R s m args below meth c wd nL QF nc nw pc (i_push (.long v) F) := by
  intro L S h o H locs cells slots ls hf hn hL hP hS h1 h2
  exact lv_lconst A.1 A.2.1 d hv (k L _ h o H locs cells slots ls hf hn hL hP hS h1 h2)
theorem sn_ldc (A : Act p l s m args meth c wd own cc nL ret) {index : Nat} {v : Int32} (d : decode cc pc = .ok (.ldc index, 2)) (hw : Cond.constant own index v ∈ TS) (k : Snd p l e R s m args below meth c wd nL QF nc nw (pc + 2) F) : Snd p l e R s m args below meth c wd nL QF nc nw pc (i_push (.int v) F) := by
  intro L S h o H locs cells slots ls hf hn hL hP hS h1 h2
  exact lv_ldc A.1 A.2.1 A.2.2.2.1 (A.2.2.2.2.2.2.1 _ hw) d (k L _ h o H locs cells slots ls hf hn hL hP hS h1 h2)
theorem sn_ldcw (A : Act p l s m args meth c wd own cc nL ret) {index : Nat} {v : Int32} (d : decode cc pc = .ok (.ldc_w index, 3)) (hw : Cond.constant own index v ∈ TS) (k : Snd p l e R s m args below meth c wd nL QF nc nw (pc + 3) F) : Snd p l e R s m args below meth c wd nL QF nc nw pc (i_push (.int v) F) := by
  intro L S h o H locs cells slots ls hf hn hL hP hS h1 h2
  exact lv_ldcw A.1 A.2.1 A.2.2.2.1 (A.2.2.2.2.2.2.1 _ hw) d (k L _ h o H locs cells slots ls hf hn hL hP hS h1 h2)
theorem sn_ldc2 (A : Act p l s m args meth c wd own cc nL ret) {index : Nat} {v : Int64} (d : decode cc pc = .ok (.ldc2_w index, 3)) (hw : Cond.constantLong own index v ∈ TS) (k : Snd p l e R s m args below meth c wd nL QF nc nw (pc + 3) F) : Snd p l e R s m args below meth c wd nL QF nc nw pc (i_push (.long v) F) := by
  intro L S h o H locs cells slots ls hf hn hL hP hS h1 h2
  exact lv_ldc2 A.1 A.2.1 A.2.2.2.1 (A.2.2.2.2.2.2.1 _ hw) d (k L _ h o H locs cells slots ls hf hn hL hP hS h1 h2)
def i_iload (i : Nat) (F : Fn) : Fn := fun L S h => match L[i]? with
  | some (some (.int x)) => F L (.int x :: S) h
  | _ => none
theorem sn_iload_n (A : Act p l s m args meth c wd own cc nL ret) {j : Fin 4} {i : Nat} (d : decode cc pc = .ok (.iload_n j, 1)) (hj : (j : Nat) = i) (k : Snd p l e R s m args below meth c wd nL QF nc nw (pc + 1) F) : Snd p l e R s m args below meth c wd nL QF nc nw pc (i_iload i F) := by
  intro L S h o H locs cells slots ls hf hn hL hP hS h1 h2
  unfold i_iload at hf
  split at hf
  · next x hx => exact lv_iload_n A.1 A.2.1 d hj (hL.at hx) (k L _ h o H locs cells slots ls hf hn hL hP hS h1 h2)
  · cases hf
theorem sn_iload (A : Act p l s m args meth c wd own cc nL ret) {i : Nat} (d : decode cc pc = .ok (.iload i, 2)) (k : Snd p l e R s m args below meth c wd nL QF nc nw (pc + 2) F) : Snd p l e R s m args below meth c wd nL QF nc nw pc (i_iload i F) := by
  intro L S h o H locs cells slots ls hf hn hL hP hS h1 h2
  unfold i_iload at hf
  split at hf
  · next x hx => exact lv_iload A.1 A.2.1 d (hL.at hx) (k L _ h o H locs cells slots ls hf hn hL hP hS h1 h2)
  · cases hf
def i_lload (i : Nat) (F : Fn) : Fn := fun L S h => match L[i]? with
  | some (some (.long x)) => F L (.long x :: S) h
  | _ => none
theorem sn_lload_n (A : Act p l s m args meth c wd own cc nL ret) {j : Fin 4} {i : Nat} (d : decode cc pc = .ok (.lload_n j, 1)) (hj : (j : Nat) = i) (k : Snd p l e R s m args below meth c wd nL QF nc nw (pc + 1) F) : Snd p l e R s m args below meth c wd nL QF nc nw pc (i_lload i F) := by
  intro L S h o H locs cells slots ls hf hn hL hP hS h1 h2
  unfold i_lload at hf
  split at hf
  · next x hx => exact lv_lload_n A.1 A.2.1 d hj (hL.at hx) (k L _ h o H locs cells slots ls hf hn hL hP hS h1 h2)
  · cases hf
theorem sn_lload (A : Act p l s m args meth c wd own cc nL ret) {i : Nat} (d : decode cc pc = .ok (.lload i, 2)) (k : Snd p l e R s m args below meth c wd nL QF nc nw (pc + 2) F) : Snd p l e R s m args below meth c wd nL QF nc nw pc (i_lload i F) := by
  intro L S h o H locs cells slots ls hf hn hL hP hS h1 h2
  unfold i_lload at hf
  split at hf
  · next x hx => exact lv_lload A.1 A.2.1 d (hL.at hx) (k L _ h o H locs cells slots ls hf hn hL hP hS h1 h2)
  · cases hf
def i_aload (i : Nat) (F : Fn) : Fn := fun L S h => match L[i]? with
  | some (some (.ref x)) => F L (.ref x :: S) h
  | some (some .null) => F L (.null :: S) h
  | _ => none
theorem sn_aload_n (A : Act p l s m args meth c wd own cc nL ret) {j : Fin 4} {i : Nat} (d : decode cc pc = .ok (.aload_n j, 1)) (hj : (j : Nat) = i) (k : Snd p l e R s m args below meth c wd nL QF nc nw (pc + 1) F) : Snd p l e R s m args below meth c wd nL QF nc nw pc (i_aload i F) := by
  intro L S h o H locs cells slots ls hf hn hL hP hS h1 h2
  unfold i_aload at hf
  split at hf
  · next x hx => exact lv_aload_n A.1 A.2.1 d hj (hL.at hx) (k L _ h o H locs cells slots ls hf hn hL hP hS h1 h2)
  · next hx => exact lv_aload_nN A.1 A.2.1 d hj (hL.at hx) (k L _ h o H locs cells slots ls hf hn hL hP hS h1 h2)
  · cases hf
theorem sn_aload (A : Act p l s m args meth c wd own cc nL ret) {i : Nat} (d : decode cc pc = .ok (.aload i, 2)) (k : Snd p l e R s m args below meth c wd nL QF nc nw (pc + 2) F) : Snd p l e R s m args below meth c wd nL QF nc nw pc (i_aload i F) := by
  intro L S h o H locs cells slots ls hf hn hL hP hS h1 h2
  unfold i_aload at hf
  split at hf
  · next x hx => exact lv_aload A.1 A.2.1 d (hL.at hx) (k L _ h o H locs cells slots ls hf hn hL hP hS h1 h2)
  · next hx => exact lv_aloadN A.1 A.2.1 d (hL.at hx) (k L _ h o H locs cells slots ls hf hn hL hP hS h1 h2)
  · cases hf
def i_istore (i : Nat) (F : Fn) : Fn := fun L S h => match S with
  | .int x :: S => if lgAt L i = false ∧ i < L.length then F (L.set i (some (.int x))) S h else none
  | _ => none
def i_astore (i : Nat) (F : Fn) : Fn := fun L S h => match S with
  | .ref x :: S => if lgAt L i = false ∧ i < L.length then F (L.set i (some (.ref x))) S h else none
  | .null :: S => if lgAt L i = false ∧ i < L.length then F (L.set i (some .null)) S h else none
  | _ => none
def i_lstore (i : Nat) (F : Fn) : Fn := fun L S h => match S with
  | .long x :: S => if lgAt L i = false ∧ i + 1 < L.length then F ((L.set i (some (.long x))).set (i + 1) none) S h else none
  | _ => none
theorem sn_istore_n (A : Act p l s m args meth c wd own cc nL ret) {j : Fin 4} {i : Nat} (d : decode cc pc = .ok (.istore_n j, 1)) (hj : (j : Nat) = i) (k : Snd p l e R s m args below meth c wd nL QF nc nw (pc + 1) F) : Snd p l e R s m args below meth c wd nL QF nc nw pc (i_istore i F) := by
  intro L S h o H locs cells slots ls hf hn hL hP hS h1 h2
  unfold i_istore at hf
  split at hf
  · next x S1 =>
    split at hf
    · next hc => exact lv_istore_n A.1 A.2.1 d hj hL.has (by omega) rfl (fun ls hl => (k _ _ h o H locs cells slots ls hf (by simpa using hn) (LR.of1 hc.1 hl) hP hS h1 h2))
    · cases hf
  · cases hf
theorem sn_istore (A : Act p l s m args meth c wd own cc nL ret) {i : Nat} (d : decode cc pc = .ok (.istore i, 2)) (k : Snd p l e R s m args below meth c wd nL QF nc nw (pc + 2) F) : Snd p l e R s m args below meth c wd nL QF nc nw pc (i_istore i F) := by
  intro L S h o H locs cells slots ls hf hn hL hP hS h1 h2
  unfold i_istore at hf
  split at hf
  · next x S1 =>
    split at hf
    · next hc => exact lv_istore A.1 A.2.1 d hL.has (by omega) rfl (fun ls hl => (k _ _ h o H locs cells slots ls hf (by simpa using hn) (LR.of1 hc.1 hl) hP hS h1 h2))
    · cases hf
  · cases hf
theorem sn_astore_n (A : Act p l s m args meth c wd own cc nL ret) {j : Fin 4} {i : Nat} (d : decode cc pc = .ok (.astore_n j, 1)) (hj : (j : Nat) = i) (k : Snd p l e R s m args below meth c wd nL QF nc nw (pc + 1) F) : Snd p l e R s m args below meth c wd nL QF nc nw pc (i_astore i F) := by
  intro L S h o H locs cells slots ls hf hn hL hP hS h1 h2
  unfold i_astore at hf
  split at hf
  · next x S1 =>
    split at hf
    · next hc => exact lv_astore_n A.1 A.2.1 d hj hL.has (by omega) rfl (fun ls hl => (k _ _ h o H locs cells slots ls hf (by simpa using hn) (LR.of1 (v := .ref x) hc.1 hl) hP hS h1 h2))
    · cases hf
  · next S1 =>
    split at hf
    · next hc => exact lv_astore_nN A.1 A.2.1 d hj hL.has (by omega) rfl (fun ls hl => (k _ _ h o H locs cells slots ls hf (by simpa using hn) (LR.of1 (v := .null) hc.1 hl) hP hS h1 h2))
    · cases hf
  · cases hf
theorem sn_astore (A : Act p l s m args meth c wd own cc nL ret) {i : Nat} (d : decode cc pc = .ok (.astore i, 2)) (k : Snd p l e R s m args below meth c wd nL QF nc nw (pc + 2) F) : Snd p l e R s m args below meth c wd nL QF nc nw pc (i_astore i F) := by
  intro L S h o H locs cells slots ls hf hn hL hP hS h1 h2
  unfold i_astore at hf
  split at hf
  · next x S1 =>
    split at hf
    · next hc => exact lv_astore A.1 A.2.1 d hL.has (by omega) rfl (fun ls hl => (k _ _ h o H locs cells slots ls hf (by simpa using hn) (LR.of1 (v := .ref x) hc.1 hl) hP hS h1 h2))
    · cases hf
  · next S1 =>
    split at hf
    · next hc => exact lv_astoreN A.1 A.2.1 d hL.has (by omega) rfl (fun ls hl => (k _ _ h o H locs cells slots ls hf (by simpa using hn) (LR.of1 (v := .null) hc.1 hl) hP hS h1 h2))
    · cases hf
  · cases hf
theorem sn_lstore_n (A : Act p l s m args meth c wd own cc nL ret) {j : Fin 4} {i : Nat} (d : decode cc pc = .ok (.lstore_n j, 1)) (hj : (j : Nat) = i) (k : Snd p l e R s m args below meth c wd nL QF nc nw (pc + 1) F) : Snd p l e R s m args below meth c wd nL QF nc nw pc (i_lstore i F) := by
  intro L S h o H locs cells slots ls hf hn hL hP hS h1 h2
  unfold i_lstore at hf
  split at hf
  · next x S1 =>
    split at hf
    · next hc => exact lv_lstore_n A.1 A.2.1 d hj hL.has (by omega) rfl (fun ls hl => (k _ _ h o H locs cells slots ls hf (by simpa using hn) (LR.of2 hc.1 hl) hP hS h1 h2))
    · cases hf
  · cases hf
def i_iinc (i : Nat) (n : Int32) (F : Fn) : Fn := fun L S h => match L[i]? with
  | some (some (.int x)) => if lgAt L i = false then F (L.set i (some (.int (x + n)))) S h else none
  | _ => none
theorem sn_iinc (A : Act p l s m args meth c wd own cc nL ret) {i : Nat} {n : Int} {v : Int32} (d : decode cc pc = .ok (.iinc i n, 3)) (hv : Int32.ofInt n = v) (k : Snd p l e R s m args below meth c wd nL QF nc nw (pc + 3) F) : Snd p l e R s m args below meth c wd nL QF nc nw pc (i_iinc i v F) := by
  intro L S h o H locs cells slots ls hf hn hL hP hS h1 h2
  subst hv
  unfold i_iinc at hf
  split at hf
  · next x hx =>
    split at hf
    · next hg =>
      obtain ⟨z, hz⟩ := List.getElem?_of_mem (asc_mem (wd := wd).mpr (show ∃ v, L[(i, Value.int x).1]? = some (some v) ∧ (i, Value.int x).2 = cv wd v from ⟨_, hx, rfl⟩))
      have hi : i < L.length := (List.getElem?_eq_some_iff.mp hx).1
      exact lv_iinc A.1 A.2.1 d hL.has hz rfl (by omega) rfl (fun ls hl => (k _ _ h o H locs cells slots ls hf (by simpa using hn) (LR.of1 hg hl) hP hS h1 h2))
    · cases hf
  · cases hf
def i_bin (f : Int32 → Int32 → Int32) (F : Fn) : Fn := fun L S h => match S with
  | .int y :: .int x :: S => F L (.int (f x y) :: S) h
  | _ => none
theorem sn_iadd (A : Act p l s m args meth c wd own cc nL ret) (d : decode cc pc = .ok (.iadd, 1)) (k : Snd p l e R s m args below meth c wd nL QF nc nw (pc + 1) F) : Snd p l e R s m args below meth c wd nL QF nc nw pc (i_bin (fun x y => x + y) F) := by
  intro L S h o H locs cells slots ls hf hn hL hP hS h1 h2
  unfold i_bin at hf
  split at hf
  · exact lv_iadd A.1 A.2.1 d (k L _ h o H locs cells slots ls hf hn hL hP hS h1 h2)
  · cases hf
theorem sn_isub (A : Act p l s m args meth c wd own cc nL ret) (d : decode cc pc = .ok (.isub, 1)) (k : Snd p l e R s m args below meth c wd nL QF nc nw (pc + 1) F) : Snd p l e R s m args below meth c wd nL QF nc nw pc (i_bin (fun x y => x - y) F) := by
  intro L S h o H locs cells slots ls hf hn hL hP hS h1 h2
  unfold i_bin at hf
  split at hf
  · exact lv_isub A.1 A.2.1 d (k L _ h o H locs cells slots ls hf hn hL hP hS h1 h2)
  · cases hf
theorem sn_imul (A : Act p l s m args meth c wd own cc nL ret) (d : decode cc pc = .ok (.imul, 1)) (k : Snd p l e R s m args below meth c wd nL QF nc nw (pc + 1) F) : Snd p l e R s m args below meth c wd nL QF nc nw pc (i_bin (fun x y => x * y) F) := by
  intro L S h o H locs cells slots ls hf hn hL hP hS h1 h2
  unfold i_bin at hf
  split at hf
  · exact lv_imul A.1 A.2.1 d (k L _ h o H locs cells slots ls hf hn hL hP hS h1 h2)
  · cases hf
theorem sn_iand (A : Act p l s m args meth c wd own cc nL ret) (d : decode cc pc = .ok (.iand, 1)) (k : Snd p l e R s m args below meth c wd nL QF nc nw (pc + 1) F) : Snd p l e R s m args below meth c wd nL QF nc nw pc (i_bin (fun x y => x &&& y) F) := by
  intro L S h o H locs cells slots ls hf hn hL hP hS h1 h2
  unfold i_bin at hf
  split at hf
  · exact lv_iand A.1 A.2.1 d (k L _ h o H locs cells slots ls hf hn hL hP hS h1 h2)
  · cases hf
theorem sn_ior (A : Act p l s m args meth c wd own cc nL ret) (d : decode cc pc = .ok (.ior, 1)) (k : Snd p l e R s m args below meth c wd nL QF nc nw (pc + 1) F) : Snd p l e R s m args below meth c wd nL QF nc nw pc (i_bin (fun x y => x ||| y) F) := by
  intro L S h o H locs cells slots ls hf hn hL hP hS h1 h2
  unfold i_bin at hf
  split at hf
  · exact lv_ior A.1 A.2.1 d (k L _ h o H locs cells slots ls hf hn hL hP hS h1 h2)
  · cases hf
theorem sn_ixor (A : Act p l s m args meth c wd own cc nL ret) (d : decode cc pc = .ok (.ixor, 1)) (k : Snd p l e R s m args below meth c wd nL QF nc nw (pc + 1) F) : Snd p l e R s m args below meth c wd nL QF nc nw pc (i_bin (fun x y => x ^^^ y) F) := by
  intro L S h o H locs cells slots ls hf hn hL hP hS h1 h2
  unfold i_bin at hf
  split at hf
  · exact lv_ixor A.1 A.2.1 d (k L _ h o H locs cells slots ls hf hn hL hP hS h1 h2)
  · cases hf
theorem sn_ishl (A : Act p l s m args meth c wd own cc nL ret) (d : decode cc pc = .ok (.ishl, 1)) (k : Snd p l e R s m args below meth c wd nL QF nc nw (pc + 1) F) : Snd p l e R s m args below meth c wd nL QF nc nw pc (i_bin (fun x y => x <<< (y &&& 31)) F) := by
  intro L S h o H locs cells slots ls hf hn hL hP hS h1 h2
  unfold i_bin at hf
  split at hf
  · exact lv_ishl A.1 A.2.1 d (k L _ h o H locs cells slots ls hf hn hL hP hS h1 h2)
  · cases hf
theorem sn_ishr (A : Act p l s m args meth c wd own cc nL ret) (d : decode cc pc = .ok (.ishr, 1)) (k : Snd p l e R s m args below meth c wd nL QF nc nw (pc + 1) F) : Snd p l e R s m args below meth c wd nL QF nc nw pc (i_bin (fun x y => x >>> (y &&& 31)) F) := by
  intro L S h o H locs cells slots ls hf hn hL hP hS h1 h2
  unfold i_bin at hf
  split at hf
  · exact lv_ishr A.1 A.2.1 d (k L _ h o H locs cells slots ls hf hn hL hP hS h1 h2)
  · cases hf
theorem sn_iushr (A : Act p l s m args meth c wd own cc nL ret) (d : decode cc pc = .ok (.iushr, 1)) (k : Snd p l e R s m args below meth c wd nL QF nc nw (pc + 1) F) : Snd p l e R s m args below meth c wd nL QF nc nw pc (i_bin (fun x y => (x.toUInt32 >>> (y.toUInt32 &&& Int32.toUInt32 31)).toInt32) F) := by
  intro L S h o H locs cells slots ls hf hn hL hP hS h1 h2
  unfold i_bin at hf
  split at hf
  · exact lv_iushr A.1 A.2.1 d rfl (k L _ h o H locs cells slots ls hf hn hL hP hS h1 h2)
  · cases hf
def i_div (f : Int32 → Int32 → Int32) (F : Fn) : Fn := fun L S h => match S with
  | .int y :: .int x :: S => if y = 0 then none else F L (.int (f x y) :: S) h
  | _ => none
theorem sn_idiv (A : Act p l s m args meth c wd own cc nL ret) (d : decode cc pc = .ok (.idiv, 1)) (k : Snd p l e R s m args below meth c wd nL QF nc nw (pc + 1) F) : Snd p l e R s m args below meth c wd nL QF nc nw pc (i_div (fun x y => x / y) F) := by
  intro L S h o H locs cells slots ls hf hn hL hP hS h1 h2
  unfold i_div at hf
  split at hf
  · split at hf
    · cases hf
    · next hne => exact lv_idiv A.1 A.2.1 d hne (k L _ h o H locs cells slots ls hf hn hL hP hS h1 h2)
  · cases hf
theorem sn_irem (A : Act p l s m args meth c wd own cc nL ret) (d : decode cc pc = .ok (.irem, 1)) (k : Snd p l e R s m args below meth c wd nL QF nc nw (pc + 1) F) : Snd p l e R s m args below meth c wd nL QF nc nw pc (i_div (fun x y => x - x / y * y) F) := by
  intro L S h o H locs cells slots ls hf hn hL hP hS h1 h2
  unfold i_div at hf
  split at hf
  · split at hf
    · cases hf
    · next hne => exact lv_irem A.1 A.2.1 d hne (k L _ h o H locs cells slots ls hf hn hL hP hS h1 h2)
  · cases hf
def i_ineg (F : Fn) : Fn := fun L S h => match S with
  | .int x :: S => F L (.int (-x) :: S) h
  | _ => none
theorem sn_ineg (A : Act p l s m args meth c wd own cc nL ret) (d : decode cc pc = .ok (.ineg, 1)) (k : Snd p l e R s m args below meth c wd nL QF nc nw (pc + 1) F) : Snd p l e R s m args below meth c wd nL QF nc nw pc (i_ineg F) := by
  intro L S h o H locs cells slots ls hf hn hL hP hS h1 h2
  unfold i_ineg at hf
  split at hf
  · exact lv_ineg A.1 A.2.1 d (k L _ h o H locs cells slots ls hf hn hL hP hS h1 h2)
  · cases hf
def i_lbin (f : Int64 → Int64 → Int64) (F : Fn) : Fn := fun L S h => match S with
  | .long y :: .long x :: S => F L (.long (f x y) :: S) h
  | _ => none
theorem sn_ladd (A : Act p l s m args meth c wd own cc nL ret) (d : decode cc pc = .ok (.ladd, 1)) (k : Snd p l e R s m args below meth c wd nL QF nc nw (pc + 1) F) : Snd p l e R s m args below meth c wd nL QF nc nw pc (i_lbin (fun x y => x + y) F) := by
  intro L S h o H locs cells slots ls hf hn hL hP hS h1 h2
  unfold i_lbin at hf
  split at hf
  · exact lv_ladd A.1 A.2.1 d (k L _ h o H locs cells slots ls hf hn hL hP hS h1 h2)
  · cases hf
theorem sn_lsub (A : Act p l s m args meth c wd own cc nL ret) (d : decode cc pc = .ok (.lsub, 1)) (k : Snd p l e R s m args below meth c wd nL QF nc nw (pc + 1) F) : Snd p l e R s m args below meth c wd nL QF nc nw pc (i_lbin (fun x y => x - y) F) := by
  intro L S h o H locs cells slots ls hf hn hL hP hS h1 h2
  unfold i_lbin at hf
  split at hf
  · exact lv_lsub A.1 A.2.1 d (k L _ h o H locs cells slots ls hf hn hL hP hS h1 h2)
  · cases hf
theorem sn_lmul (A : Act p l s m args meth c wd own cc nL ret) (d : decode cc pc = .ok (.lmul, 1)) (k : Snd p l e R s m args below meth c wd nL QF nc nw (pc + 1) F) : Snd p l e R s m args below meth c wd nL QF nc nw pc (i_lbin (fun x y => x * y) F) := by
  intro L S h o H locs cells slots ls hf hn hL hP hS h1 h2
  unfold i_lbin at hf
  split at hf
  · exact lv_lmul A.1 A.2.1 d (k L _ h o H locs cells slots ls hf hn hL hP hS h1 h2)
  · cases hf
def i_i2l (F : Fn) : Fn := fun L S h => match S with
  | .int x :: S => F L (.long x.toInt64 :: S) h
  | _ => none
theorem sn_i2l (A : Act p l s m args meth c wd own cc nL ret) (d : decode cc pc = .ok (.i2l, 1)) (k : Snd p l e R s m args below meth c wd nL QF nc nw (pc + 1) F) : Snd p l e R s m args below meth c wd nL QF nc nw pc (i_i2l F) := by
  intro L S h o H locs cells slots ls hf hn hL hP hS h1 h2
  unfold i_i2l at hf
  split at hf
  · exact lv_i2l A.1 A.2.1 d rfl (k L _ h o H locs cells slots ls hf hn hL hP hS h1 h2)
  · cases hf
def i_i2b (F : Fn) : Fn := fun L S h => match S with
  | .int x :: S => F L (.int x.toInt8.toInt32 :: S) h
  | _ => none
theorem sn_i2b (A : Act p l s m args meth c wd own cc nL ret) (d : decode cc pc = .ok (.i2b, 1)) (k : Snd p l e R s m args below meth c wd nL QF nc nw (pc + 1) F) : Snd p l e R s m args below meth c wd nL QF nc nw pc (i_i2b F) := by
  intro L S h o H locs cells slots ls hf hn hL hP hS h1 h2
  unfold i_i2b at hf
  split at hf
  · exact lv_i2b A.1 A.2.1 d rfl (k L _ h o H locs cells slots ls hf hn hL hP hS h1 h2)
  · cases hf
def i_lcmp (F : Fn) : Fn := fun L S h => match S with
  | .long y :: .long x :: S => F L (.int (lg_cmp x y) :: S) h
  | _ => none
theorem sn_lcmp (A : Act p l s m args meth c wd own cc nL ret) (d : decode cc pc = .ok (.lcmp, 1)) (k : Snd p l e R s m args below meth c wd nL QF nc nw (pc + 1) F) : Snd p l e R s m args below meth c wd nL QF nc nw pc (i_lcmp F) := by
  intro L S h o H locs cells slots ls hf hn hL hP hS h1 h2
  unfold i_lcmp at hf
  split at hf
  · exact W.lcmp A.1 A.2.1 d (k L _ h o H locs cells slots ls hf hn hL hP hS h1 h2)
  · cases hf
def i_i2c (F : Fn) : Fn := fun L S h => match S with
  | .int x :: S => F L (.int (x.toUInt32 % 65536).toInt32 :: S) h
  | _ => none
theorem sn_i2c (A : Act p l s m args meth c wd own cc nL ret) (d : decode cc pc = .ok (.i2c, 1)) (k : Snd p l e R s m args below meth c wd nL QF nc nw (pc + 1) F) : Snd p l e R s m args below meth c wd nL QF nc nw pc (i_i2c F) := by
  intro L S h o H locs cells slots ls hf hn hL hP hS h1 h2
  unfold i_i2c at hf
  split at hf
  · exact lv_i2c A.1 A.2.1 d rfl (k L _ h o H locs cells slots ls hf hn hL hP hS h1 h2)
  · cases hf
def i_dup (F : Fn) : Fn := fun L S h => match S with
  | v :: S => if v.category = 1 then F L (v :: v :: S) h else none
  | _ => none
theorem sn_dup (A : Act p l s m args meth c wd own cc nL ret) (d : decode cc pc = .ok (.dup, 1)) (k : Snd p l e R s m args below meth c wd nL QF nc nw (pc + 1) F) : Snd p l e R s m args below meth c wd nL QF nc nw pc (i_dup F) := by
  intro L S h o H locs cells slots ls hf hn hL hP hS h1 h2
  unfold i_dup at hf
  split at hf
  · split at hf
    · next hv => exact lv_dup A.1 A.2.1 d ((cv_cat wd _).trans hv) (k L _ h o H locs cells slots ls hf hn hL hP hS h1 h2)
    · cases hf
  · cases hf
def i_pop (F : Fn) : Fn := fun L S h => match S with
  | v :: S => if v.category = 1 then F L S h else none
  | _ => none
theorem sn_pop (A : Act p l s m args meth c wd own cc nL ret) (d : decode cc pc = .ok (.pop, 1)) (k : Snd p l e R s m args below meth c wd nL QF nc nw (pc + 1) F) : Snd p l e R s m args below meth c wd nL QF nc nw pc (i_pop F) := by
  intro L S h o H locs cells slots ls hf hn hL hP hS h1 h2
  unfold i_pop at hf
  split at hf
  · split at hf
    · next hv => exact lv_pop A.1 A.2.1 d ((cv_cat wd _).trans hv) (k L _ h o H locs cells slots ls hf hn hL hP hS h1 h2)
    · cases hf
  · cases hf
def i_dup2 (F : Fn) : Fn := fun L S h => match S with
  | v :: w :: S => if v.category = 1 ∧ w.category = 1 then F L (v :: w :: v :: w :: S) h else none
  | _ => none
theorem sn_dup2 (A : Act p l s m args meth c wd own cc nL ret) (d : decode cc pc = .ok (.dup2, 1)) (k : Snd p l e R s m args below meth c wd nL QF nc nw (pc + 1) F) : Snd p l e R s m args below meth c wd nL QF nc nw pc (i_dup2 F) := by
  intro L S h o H locs cells slots ls hf hn hL hP hS h1 h2
  unfold i_dup2 at hf
  split at hf
  · split at hf
    · next hv => exact lv_dup2_11 A.1 A.2.1 d ((cv_cat wd _).trans hv.1) ((cv_cat wd _).trans hv.2) (k L _ h o H locs cells slots ls hf hn hL hP hS h1 h2)
    · cases hf
  · cases hf
theorem sn_goto (A : Act p l s m args meth c wd own cc nL ret) {off : Int} {tgt : Nat} (d : decode cc pc = .ok (.goto off, 3)) (ht : (pc : Int) + off = (tgt : Int)) (k : Snd p l e R s m args below meth c wd nL QF nc nw tgt F) : Snd p l e R s m args below meth c wd nL QF nc nw pc F := by
  intro L S h o H locs cells slots ls hf hn hL hP hS h1 h2
  exact lv_goto A.1 A.2.1 d ht (k L S h o H locs cells slots ls hf hn hL hP hS h1 h2)
def i_ifeq (F G : Fn) : Fn := fun L S h => match S with
  | .int x :: S => if x = 0 then F L S h else G L S h
  | _ => none
def i_iceq (F G : Fn) : Fn := fun L S h => match S with
  | .int y :: .int x :: S => if x = y then F L S h else G L S h
  | _ => none
theorem sn_ifeq (A : Act p l s m args meth c wd own cc nL ret) {off : Int} {tgt : Nat} (d : decode cc pc = .ok (.ifCond .eq off, 3)) (ht : (pc : Int) + off = (tgt : Int)) (k : Snd p l e R s m args below meth c wd nL QF nc nw tgt F) (k2 : Snd p l e R s m args below meth c wd nL QF nc nw (pc + 3) G) : Snd p l e R s m args below meth c wd nL QF nc nw pc (i_ifeq F G) := by
  intro L S h o H locs cells slots ls hf hn hL hP hS h1 h2
  unfold i_ifeq at hf
  split at hf
  · exact lv_if_eq A.1 A.2.1 d ht (fun hc => k L _ h o H locs cells slots ls (by rw [if_pos hc] at hf; exact hf) hn hL hP hS h1 h2) (fun hc => k2 L _ h o H locs cells slots ls (by rw [if_neg hc] at hf; exact hf) hn hL hP hS h1 h2)
  · cases hf
theorem sn_iceq (A : Act p l s m args meth c wd own cc nL ret) {off : Int} {tgt : Nat} (d : decode cc pc = .ok (.if_icmp .eq off, 3)) (ht : (pc : Int) + off = (tgt : Int)) (k : Snd p l e R s m args below meth c wd nL QF nc nw tgt F) (k2 : Snd p l e R s m args below meth c wd nL QF nc nw (pc + 3) G) : Snd p l e R s m args below meth c wd nL QF nc nw pc (i_iceq F G) := by
  intro L S h o H locs cells slots ls hf hn hL hP hS h1 h2
  unfold i_iceq at hf
  split at hf
  · exact lv_icmp_eq A.1 A.2.1 d ht (fun hc => k L _ h o H locs cells slots ls (by rw [if_pos hc] at hf; exact hf) hn hL hP hS h1 h2) (fun hc => k2 L _ h o H locs cells slots ls (by rw [if_neg hc] at hf; exact hf) hn hL hP hS h1 h2)
  · cases hf
def i_ifne (F G : Fn) : Fn := fun L S h => match S with
  | .int x :: S => if x = 0 then G L S h else F L S h
  | _ => none
def i_icne (F G : Fn) : Fn := fun L S h => match S with
  | .int y :: .int x :: S => if x = y then G L S h else F L S h
  | _ => none
theorem sn_ifne (A : Act p l s m args meth c wd own cc nL ret) {off : Int} {tgt : Nat} (d : decode cc pc = .ok (.ifCond .ne off, 3)) (ht : (pc : Int) + off = (tgt : Int)) (k : Snd p l e R s m args below meth c wd nL QF nc nw tgt F) (k2 : Snd p l e R s m args below meth c wd nL QF nc nw (pc + 3) G) : Snd p l e R s m args below meth c wd nL QF nc nw pc (i_ifne F G) := by
  intro L S h o H locs cells slots ls hf hn hL hP hS h1 h2
  unfold i_ifne at hf
  split at hf
  · exact lv_if_ne A.1 A.2.1 d ht (fun hc => k L _ h o H locs cells slots ls (by rw [if_neg hc] at hf; exact hf) hn hL hP hS h1 h2) (fun hc => k2 L _ h o H locs cells slots ls (by rw [if_pos hc] at hf; exact hf) hn hL hP hS h1 h2)
  · cases hf
theorem sn_icne (A : Act p l s m args meth c wd own cc nL ret) {off : Int} {tgt : Nat} (d : decode cc pc = .ok (.if_icmp .ne off, 3)) (ht : (pc : Int) + off = (tgt : Int)) (k : Snd p l e R s m args below meth c wd nL QF nc nw tgt F) (k2 : Snd p l e R s m args below meth c wd nL QF nc nw (pc + 3) G) : Snd p l e R s m args below meth c wd nL QF nc nw pc (i_icne F G) := by
  intro L S h o H locs cells slots ls hf hn hL hP hS h1 h2
  unfold i_icne at hf
  split at hf
  · exact lv_icmp_ne A.1 A.2.1 d ht (fun hc => k L _ h o H locs cells slots ls (by rw [if_neg hc] at hf; exact hf) hn hL hP hS h1 h2) (fun hc => k2 L _ h o H locs cells slots ls (by rw [if_pos hc] at hf; exact hf) hn hL hP hS h1 h2)
  · cases hf
def i_iflt (F G : Fn) : Fn := fun L S h => match S with
  | .int x :: S => if x < 0 then F L S h else G L S h
  | _ => none
def i_iclt (F G : Fn) : Fn := fun L S h => match S with
  | .int y :: .int x :: S => if x < y then F L S h else G L S h
  | _ => none
theorem sn_iflt (A : Act p l s m args meth c wd own cc nL ret) {off : Int} {tgt : Nat} (d : decode cc pc = .ok (.ifCond .lt off, 3)) (ht : (pc : Int) + off = (tgt : Int)) (k : Snd p l e R s m args below meth c wd nL QF nc nw tgt F) (k2 : Snd p l e R s m args below meth c wd nL QF nc nw (pc + 3) G) : Snd p l e R s m args below meth c wd nL QF nc nw pc (i_iflt F G) := by
  intro L S h o H locs cells slots ls hf hn hL hP hS h1 h2
  unfold i_iflt at hf
  split at hf
  · exact lv_if_lt A.1 A.2.1 d ht (fun hc => k L _ h o H locs cells slots ls (by rw [if_pos hc] at hf; exact hf) hn hL hP hS h1 h2) (fun hc => k2 L _ h o H locs cells slots ls (by rw [if_neg hc] at hf; exact hf) hn hL hP hS h1 h2)
  · cases hf
theorem sn_iclt (A : Act p l s m args meth c wd own cc nL ret) {off : Int} {tgt : Nat} (d : decode cc pc = .ok (.if_icmp .lt off, 3)) (ht : (pc : Int) + off = (tgt : Int)) (k : Snd p l e R s m args below meth c wd nL QF nc nw tgt F) (k2 : Snd p l e R s m args below meth c wd nL QF nc nw (pc + 3) G) : Snd p l e R s m args below meth c wd nL QF nc nw pc (i_iclt F G) := by
  intro L S h o H locs cells slots ls hf hn hL hP hS h1 h2
  unfold i_iclt at hf
  split at hf
  · exact lv_icmp_lt A.1 A.2.1 d ht (fun hc => k L _ h o H locs cells slots ls (by rw [if_pos hc] at hf; exact hf) hn hL hP hS h1 h2) (fun hc => k2 L _ h o H locs cells slots ls (by rw [if_neg hc] at hf; exact hf) hn hL hP hS h1 h2)
  · cases hf
def i_ifge (F G : Fn) : Fn := fun L S h => match S with
  | .int x :: S => if 0 ≤ x then F L S h else G L S h
  | _ => none
def i_icge (F G : Fn) : Fn := fun L S h => match S with
  | .int y :: .int x :: S => if y ≤ x then F L S h else G L S h
  | _ => none
theorem sn_ifge (A : Act p l s m args meth c wd own cc nL ret) {off : Int} {tgt : Nat} (d : decode cc pc = .ok (.ifCond .ge off, 3)) (ht : (pc : Int) + off = (tgt : Int)) (k : Snd p l e R s m args below meth c wd nL QF nc nw tgt F) (k2 : Snd p l e R s m args below meth c wd nL QF nc nw (pc + 3) G) : Snd p l e R s m args below meth c wd nL QF nc nw pc (i_ifge F G) := by
  intro L S h o H locs cells slots ls hf hn hL hP hS h1 h2
  unfold i_ifge at hf
  split at hf
  · exact lv_if_ge A.1 A.2.1 d ht (fun hc => k L _ h o H locs cells slots ls (by rw [if_pos hc] at hf; exact hf) hn hL hP hS h1 h2) (fun hc => k2 L _ h o H locs cells slots ls (by rw [if_neg hc] at hf; exact hf) hn hL hP hS h1 h2)
  · cases hf
theorem sn_icge (A : Act p l s m args meth c wd own cc nL ret) {off : Int} {tgt : Nat} (d : decode cc pc = .ok (.if_icmp .ge off, 3)) (ht : (pc : Int) + off = (tgt : Int)) (k : Snd p l e R s m args below meth c wd nL QF nc nw tgt F) (k2 : Snd p l e R s m args below meth c wd nL QF nc nw (pc + 3) G) : Snd p l e R s m args below meth c wd nL QF nc nw pc (i_icge F G) := by
  intro L S h o H locs cells slots ls hf hn hL hP hS h1 h2
  unfold i_icge at hf
  split at hf
  · exact lv_icmp_ge A.1 A.2.1 d ht (fun hc => k L _ h o H locs cells slots ls (by rw [if_pos hc] at hf; exact hf) hn hL hP hS h1 h2) (fun hc => k2 L _ h o H locs cells slots ls (by rw [if_neg hc] at hf; exact hf) hn hL hP hS h1 h2)
  · cases hf
def i_ifgt (F G : Fn) : Fn := fun L S h => match S with
  | .int x :: S => if 0 < x then F L S h else G L S h
  | _ => none
def i_icgt (F G : Fn) : Fn := fun L S h => match S with
  | .int y :: .int x :: S => if y < x then F L S h else G L S h
  | _ => none
theorem sn_ifgt (A : Act p l s m args meth c wd own cc nL ret) {off : Int} {tgt : Nat} (d : decode cc pc = .ok (.ifCond .gt off, 3)) (ht : (pc : Int) + off = (tgt : Int)) (k : Snd p l e R s m args below meth c wd nL QF nc nw tgt F) (k2 : Snd p l e R s m args below meth c wd nL QF nc nw (pc + 3) G) : Snd p l e R s m args below meth c wd nL QF nc nw pc (i_ifgt F G) := by
  intro L S h o H locs cells slots ls hf hn hL hP hS h1 h2
  unfold i_ifgt at hf
  split at hf
  · exact lv_if_gt A.1 A.2.1 d ht (fun hc => k L _ h o H locs cells slots ls (by rw [if_pos hc] at hf; exact hf) hn hL hP hS h1 h2) (fun hc => k2 L _ h o H locs cells slots ls (by rw [if_neg hc] at hf; exact hf) hn hL hP hS h1 h2)
  · cases hf
theorem sn_icgt (A : Act p l s m args meth c wd own cc nL ret) {off : Int} {tgt : Nat} (d : decode cc pc = .ok (.if_icmp .gt off, 3)) (ht : (pc : Int) + off = (tgt : Int)) (k : Snd p l e R s m args below meth c wd nL QF nc nw tgt F) (k2 : Snd p l e R s m args below meth c wd nL QF nc nw (pc + 3) G) : Snd p l e R s m args below meth c wd nL QF nc nw pc (i_icgt F G) := by
  intro L S h o H locs cells slots ls hf hn hL hP hS h1 h2
  unfold i_icgt at hf
  split at hf
  · exact lv_icmp_gt A.1 A.2.1 d ht (fun hc => k L _ h o H locs cells slots ls (by rw [if_pos hc] at hf; exact hf) hn hL hP hS h1 h2) (fun hc => k2 L _ h o H locs cells slots ls (by rw [if_neg hc] at hf; exact hf) hn hL hP hS h1 h2)
  · cases hf
def i_ifle (F G : Fn) : Fn := fun L S h => match S with
  | .int x :: S => if x ≤ 0 then F L S h else G L S h
  | _ => none
def i_icle (F G : Fn) : Fn := fun L S h => match S with
  | .int y :: .int x :: S => if x ≤ y then F L S h else G L S h
  | _ => none
theorem sn_ifle (A : Act p l s m args meth c wd own cc nL ret) {off : Int} {tgt : Nat} (d : decode cc pc = .ok (.ifCond .le off, 3)) (ht : (pc : Int) + off = (tgt : Int)) (k : Snd p l e R s m args below meth c wd nL QF nc nw tgt F) (k2 : Snd p l e R s m args below meth c wd nL QF nc nw (pc + 3) G) : Snd p l e R s m args below meth c wd nL QF nc nw pc (i_ifle F G) := by
  intro L S h o H locs cells slots ls hf hn hL hP hS h1 h2
  unfold i_ifle at hf
  split at hf
  · exact lv_if_le A.1 A.2.1 d ht (fun hc => k L _ h o H locs cells slots ls (by rw [if_pos hc] at hf; exact hf) hn hL hP hS h1 h2) (fun hc => k2 L _ h o H locs cells slots ls (by rw [if_neg hc] at hf; exact hf) hn hL hP hS h1 h2)
  · cases hf
theorem sn_icle (A : Act p l s m args meth c wd own cc nL ret) {off : Int} {tgt : Nat} (d : decode cc pc = .ok (.if_icmp .le off, 3)) (ht : (pc : Int) + off = (tgt : Int)) (k : Snd p l e R s m args below meth c wd nL QF nc nw tgt F) (k2 : Snd p l e R s m args below meth c wd nL QF nc nw (pc + 3) G) : Snd p l e R s m args below meth c wd nL QF nc nw pc (i_icle F G) := by
  intro L S h o H locs cells slots ls hf hn hL hP hS h1 h2
  unfold i_icle at hf
  split at hf
  · exact lv_icmp_le A.1 A.2.1 d ht (fun hc => k L _ h o H locs cells slots ls (by rw [if_pos hc] at hf; exact hf) hn hL hP hS h1 h2) (fun hc => k2 L _ h o H locs cells slots ls (by rw [if_neg hc] at hf; exact hf) hn hL hP hS h1 h2)
  · cases hf
end OPS
