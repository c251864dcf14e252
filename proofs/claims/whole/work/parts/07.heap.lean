section HEAP
/-! fields, rows, calls, ends over the abstract heap -/
def ClF (ci : Nat) (C : String) (T : u_T) (N : Nat) (ty : Nat → FieldType) : Prop :=
  vwCl[ci]? = some (C, T, N) ∧ N = nf ci ∧ (∀ w ∈ u_ws C T N, w ∈ TS) ∧ (∀ k, k < N → parseFieldDescriptor (T k).2.2.1 = some (ty k)) ∧ (∀ a, a < N → ∀ b, b < N → a ≠ b → (T a).2.1 ≠ (T b).2.1) ∧ (∀ k, k < N → (T k).1 = C)
/-- an instruction's field entry names field k of class ci -/
def LkF (own : String) (index ci k : Nat) (ty0 : FieldType) (fin : Bool) : Prop := ∃ (C : String) (T : u_T) (N : Nat) (ty : Nat → FieldType), ClF ci C T N ty ∧ k < N ∧ ty k = ty0 ∧ (T k).2.2.2 = fin ∧
  (Cond.fieldLink own index C (T k).2.1 (T k).2.2.1 ∈ TS ∨ ∃ host, Cond.fieldLinkNest own index C (T k).2.1 (T k).2.2.1 host ∈ lw_tbl)
variable {p : Program} {l : Launch} {e : Env} {R : Room} {s : State} {m : MethodId} {args : Array Value} {below : List Frame} {meth : Method} {c : Code} {wd : WD} {own : String} {cc : ByteArray} {nL : Nat} {ret : Option FieldType} {QF : Ou → State → Prop} {nc nw pc : Nat} {F G : Fn}
theorem cv_fv0 {h : AH} {ci i k : Nat} (hk : fk ci k = 0) : cv wd (.int (gI h i k)) = fv wd h ci i k := by unfold fv; rw [hk]; rfl
theorem cv_fv1 {h : AH} {ci i k : Nat} (hk : fk ci k = 1) : cv wd (.long (gL h i k)) = fv wd h ci i k := by unfold fv; rw [hk]; rfl
theorem cv_fv2 {h : AH} {ci i k : Nat} (hk : fk ci k = 2) : cv wd (rv (gR h i k)) = fv wd h ci i k := by unfold fv; rw [hk, cv_rv]; rfl
theorem Act.exA (A : Act p l s m args meth c wd own cc nL ret) : p.tables.exec = Jvm.exec := A.1
theorem Act.ccA (A : Act p l s m args meth c wd own cc nL ret) : c.code = cc := A.2.1
theorem Act.mlA (A : Act p l s m args meth c wd own cc nL ret) : c.maxLocals = nL := A.2.2.1
theorem Act.ownA (A : Act p l s m args meth c wd own cc nL ret) : s.vm.findClass own = some m.cls := A.2.2.2.1
theorem Act.retA (A : Act p l s m args meth c wd own cc nL ret) : meth.sig.returnType = ret := A.2.2.2.2.1
theorem Act.lkA (A : Act p l s m args meth c wd own cc nL ret) : meth.locks = false := A.2.2.2.2.2.1
theorem Act.tsA (A : Act p l s m args meth c wd own cc nL ret) : ∀ w ∈ TS, w.before args s = true := A.2.2.2.2.2.2.1
theorem Act.kkA (A : Act p l s m args meth c wd own cc nL ret) : KK l wd s := A.2.2.2.2.2.2.2
theorem KK.kK (h : KK l wd s) : va_K wd.2.2.1 vwCl (tyO wd) s := h.1
theorem KK.sfK (h : KK l wd s) : SF wd s s.heap := h.2.1
theorem KK.txK (h : KK l wd s) : TX wd s := h.2.2.1
theorem KK.nwK (h : KK l wd s) : NW s := h.2.2.2.1
theorem KK.leK (h : KK l wd s) : wd.1 ≤ s.heap.size := h.2.2.2.2.1
theorem KK.adK (h : KK l wd s) : AdO wd := h.2.2.2.2.2.1
theorem KK.trK (h : KK l wd s) : l.stackTraces = false := h.2.2.2.2.2.2.1
theorem KK.aoK (h : KK l wd s) : va_AO RX9 s := h.2.2.2.2.2.2.2
theorem Act.D (A : Act p l s m args meth c wd own cc nL ret) {h : AH} {H : Heap} (hP : PH wd h H) : va_D (AO wd) (wsO wd h) := wsO_D A.kkA.adK hP.2.1
theorem Act.nest (A : Act p l s m args meth c wd own cc nL ret) {w : Cond} (h1 : w ∈ lw_tbl) (h2 : isNw w = true) (h3 : w.onTables = true) : w.before args s = true := va_Nw.use h3 (A.kkA.nwK w h1 h2)
/-- a field's value comes on the stack -/
theorem W_get (A : Act p l s m args meth c wd own cc nL ret) {index ci k : Nat} {ty0 : FieldType} {fin : Bool} (d : decode cc pc = .ok (.getfield index, 3)) (lk : LkF own index ci k ty0 fin) {h : AH} {H : Heap} {locs : List Loc} {cells slots : Nat} {Q : State → Prop} {ls : Array Slot} {rest : List Value} {i : Nat} (hP : PH wd h H) (hi : sh i = (0, ci) ∧ i < gN h)
    (kk : W p l e R s m args below meth c H locs cells slots Q (F0 m (pc + 3) ls (fv wd h ci i k :: rest))) : W p l e R s m args below meth c H locs cells slots Q (F0 m pc ls (.ref (wd.2.1 i) :: rest)) := by
  obtain ⟨C, T, N, ty, ⟨c1, c2, c3, c4, c5, c6⟩, hk, h1, h2, h3⟩ := lk
  have he := wsO_get wd h hi.2
  rw [ent_o hi.1] at he
  rcases h3 with h3 | ⟨host, h3⟩
  · exact va_get A.exA A.ccA A.tsA c3 A.ownA A.kkA.kK hP.1 i he c1 k hk (A.tsA _ h3) (by rw [c6 k hk]; exact fun _ h => h) (fvs_get (by omega)) d kk
  · exact va_getN A.exA A.ccA A.tsA c3 A.ownA A.kkA.kK hP.1 i he c1 k hk (A.nest h3 rfl rfl) (by rw [c6 k hk]; exact fun _ h => h) (fvs_get (by omega)) d kk
theorem W_put (A : Act p l s m args meth c wd own cc nL ret) {index ci k : Nat} {ty0 : FieldType} (d : decode cc pc = .ok (.putfield index, 3)) (lk : LkF own index ci k ty0 false) {h h' : AH} {H : Heap} {locs : List Loc} {cells slots : Nat} {Q : State → Prop} {ls : Array Slot} {rest : List Value} {i : Nat} {v : Value} (hP : PH wd h H) (hS : va_S (AO wd) s.heap H locs) (hi : sh i = (0, ci) ∧ i < gN h)
    (hn : narrow ty0 v = v) (hf : fits ty0 v = true) (hN : gN h' = gN h) (hX : gX h' = gX h) (hv : fv wd h' ci i k = v) (ho : ∀ j, j ≠ k → fv wd h' ci i j = fv wd h ci i j) (ho2 : ∀ j, j ≠ i → ent wd h' j = ent wd h j)
    (kk : ∀ (H1 : Heap) (locs1 : List Loc), PH wd h' H1 → va_S (AO wd) s.heap H1 locs1 → W p l e R s m args below meth c H1 locs1 cells slots Q (F0 m (pc + 3) ls rest)) : W p l e R s m args below meth c H locs cells slots Q (F0 m pc ls (v :: .ref (wd.2.1 i) :: rest)) := by
  obtain ⟨C, T, N, ty, ⟨c1, c2, c3, c4, c5, c6⟩, hk, h1, h2, h3⟩ := lk
  have he := wsO_get wd h hi.2
  rw [ent_o hi.1] at he
  have hset : (wsO wd h).set i (wd.2.1 i, .inr (ci, ((List.range (nf ci)).map (fv wd h ci i)).set k v)) = wsO wd h' := wsO_set hN (by rw [ent_o hi.1, fvs_set hv ho]) ho2
  have hl : k < ((List.range (nf ci)).map (fv wd h ci i)).length := by simp; omega
  have hts := A.tsA
  have hap := va_apart (own := own) hts c3 ty c4 c5 A.kkA.kK c1
  obtain ⟨r, g1, cell, q1, q2, q3, q4⟩ := hP.1 i _ he
  have hr : r = (C, T, N) := Option.some.inj (g1.symm.trans c1)
  subst hr
  obtain ⟨hSl, hfc, kC, hkC, hkind⟩ := A.kkA.kK.1 ci _ c1
  obtain ⟨cf, kf, fi, f, hif, hsl⟩ := hSl k hk
  have hlay := hts _ (c3 _ (u_in_lay hk))
  unfold u_lay at hlay
  rw [if_neg (by rw [h2]; decide)] at hlay
  have hst := (u_facts hfc hkC (u_lays hts c3 hk) hif).1
  have h6 := u_store hfc hkC hkind hlay hif ((c4 k hk).trans (by rw [h1])) hn hf
  have hsame : s.fieldFound? C (T k).2.1 (T k).2.2.1 = some (cf, kf, fi, f) := by rw [← c6 k hk]; exact hif
  have fin : ∀ H1 : Heap, H1[wd.2.1 i]? = some (cell.setSlot f.slot v) → H1.size = H.size → (∀ q, q ≠ wd.2.1 i → H1[q]? = H[q]?) → W p l e R s m args below meth c H1 (locs ++ [⟨wd.2.1 i, f.slot⟩]) cells slots Q (F0 m (pc + 3) ls rest) := by
    intro H1 e1 e2 e3
    rw [hsl] at e1 ⊢
    have g1 := hP.1.set (e := .inr (ci, ((List.range (nf ci)).map (fv wd h ci i)).set k v)) (A.D hP) he ⟨_, c1, t_OB.to (V := updV (vp_V ((List.range (nf ci)).map (fv wd h ci i))) k v) ⟨_, e1, q2, q3, t_set q4 hap hk v⟩ (fun j _ => vp_updV_set hl v j)⟩ e3
    rw [hset] at g1
    exact kk H1 _ ⟨g1, by rw [hN]; exact hP.2.1, by rw [hX, hN, e2]; exact hP.2.2⟩ (hS.put e2 e3 ((A.D hP).2 i _ he))
  rcases h3 with h3 | ⟨host, h3⟩
  · exact W.putK A.exA A.ccA (f := f) ⟨A.ownA, hts _ h3, ⟨_, _, _, hsame⟩, hst⟩ (by rw [q2]; exact h6) q1 q3 (by rw [hsl]; exact k2_hasslot (q4 k hk)) rfl rfl d fin
  · exact va_WputK A.exA A.ccA (f := f) A.ownA (A.nest h3 rfl rfl) hsame hst (by rw [q2]; exact h6) q1 q3 (by rw [hsl]; exact k2_hasslot (q4 k hk)) rfl rfl d fin
/-- a final field, in the constructor of its own class -/
theorem W_putF (A : Act p l s m args meth c wd own cc nL ret) {index ci k : Nat} {ty0 : FieldType} (d : decode cc pc = .ok (.putfield index, 3)) (lk : LkF own index ci k ty0 true) (hin : meth.name = "<init>") (hcl : (vwCl[ci]?).map (·.1) = some own) {h h' : AH} {H : Heap} {locs : List Loc} {cells slots : Nat} {Q : State → Prop} {ls : Array Slot} {rest : List Value} {i : Nat} {v : Value} (hP : PH wd h H) (hS : va_S (AO wd) s.heap H locs) (hi : sh i = (0, ci) ∧ i < gN h)
    (hn : narrow ty0 v = v) (hf : fits ty0 v = true) (hN : gN h' = gN h) (hX : gX h' = gX h) (hv : fv wd h' ci i k = v) (ho : ∀ j, j ≠ k → fv wd h' ci i j = fv wd h ci i j) (ho2 : ∀ j, j ≠ i → ent wd h' j = ent wd h j)
    (kk : ∀ (H1 : Heap) (locs1 : List Loc), PH wd h' H1 → va_S (AO wd) s.heap H1 locs1 → W p l e R s m args below meth c H1 locs1 cells slots Q (F0 m (pc + 3) ls rest)) : W p l e R s m args below meth c H locs cells slots Q (F0 m pc ls (v :: .ref (wd.2.1 i) :: rest)) := by
  obtain ⟨C, T, N, ty, ⟨c1, c2, c3, c4, c5, c6⟩, hk, h1, h2, h3⟩ := lk
  have hown : C = own := by rw [c1] at hcl; exact Option.some.inj hcl
  have he := wsO_get wd h hi.2
  rw [ent_o hi.1] at he
  have hset : (wsO wd h).set i (wd.2.1 i, .inr (ci, ((List.range (nf ci)).map (fv wd h ci i)).set k v)) = wsO wd h' := wsO_set hN (by rw [ent_o hi.1, fvs_set hv ho]) ho2
  have hl : k < ((List.range (nf ci)).map (fv wd h ci i)).length := by simp; omega
  have hts := A.tsA
  have hap := va_apart (own := own) hts c3 ty c4 c5 A.kkA.kK c1
  obtain ⟨r, g1, cell, q1, q2, q3, q4⟩ := hP.1 i _ he
  have hr : r = (C, T, N) := Option.some.inj (g1.symm.trans c1)
  subst hr
  obtain ⟨hSl, hfc, kC, hkC, hkind⟩ := A.kkA.kK.1 ci _ c1
  obtain ⟨cf, kf, fi, f, hif, hsl⟩ := hSl k hk
  have hlay := hts _ (c3 _ (u_in_lay hk))
  unfold u_lay at hlay
  rw [if_pos h2] at hlay
  have hst := (u_facts hfc hkC (u_lays hts c3 hk) hif).1
  have hcf : m.cls = cf := by
    obtain ⟨_, _, c', _, _, _, -, -, hf', -, -, -, hown2, -⟩ := Cond.laysFinal_spec hlay
    have e1 : c' = cf := by have := hif.symm.trans hf'; simp at this; exact this.1.symm
    rw [c6 k hk, hown] at hown2
    rw [← e1]; exact Option.some.inj (A.ownA.symm.trans hown2)
  have h6 := u_fits hfc hkC hkind (Or.inr hlay) hif ((c4 k hk).trans (by rw [h1])) hn hf
  have hsame : s.fieldFound? C (T k).2.1 (T k).2.2.1 = some (cf, kf, fi, f) := by rw [← c6 k hk]; exact hif
  have fin : ∀ H1 : Heap, H1[wd.2.1 i]? = some (cell.setSlot f.slot v) → H1.size = H.size → (∀ q, q ≠ wd.2.1 i → H1[q]? = H[q]?) → W p l e R s m args below meth c H1 (locs ++ [⟨wd.2.1 i, f.slot⟩]) cells slots Q (F0 m (pc + 3) ls rest) := by
    intro H1 e1 e2 e3
    rw [hsl] at e1 ⊢
    have g1 := hP.1.set (e := .inr (ci, ((List.range (nf ci)).map (fv wd h ci i)).set k v)) (A.D hP) he ⟨_, c1, t_OB.to (V := updV (vp_V ((List.range (nf ci)).map (fv wd h ci i))) k v) ⟨_, e1, q2, q3, t_set q4 hap hk v⟩ (fun j _ => vp_updV_set hl v j)⟩ e3
    rw [hset] at g1
    exact kk H1 _ ⟨g1, by rw [hN]; exact hP.2.1, by rw [hX, hN, e2]; exact hP.2.2⟩ (hS.put e2 e3 ((A.D hP).2 i _ he))
  rcases h3 with h3 | ⟨host, h3⟩
  · exact W.putFinK A.exA A.ccA A.ownA (hts _ h3) hsame hst hcf hin (by rw [q2]; exact h6) q1 q3 (by rw [hsl]; exact k2_hasslot (q4 k hk)) rfl rfl d fin
  · exact va_Wputf A.exA A.ccA A.ownA (A.nest h3 rfl rfl) hsame hst (Or.inr ⟨hcf, hin⟩) q1 (by rw [q3]; exact fun h => by cases h) (by rw [hsl]; exact k2_hasslot (q4 k hk)) h6.1 (by rw [q3, q2]; exact h6.2) rfl rfl d (by
      have hlt : wd.2.1 i < H.size := (Array.getElem?_eq_some_iff.mp q1).1
      exact fin _ (by simp [Array.getElem?_setIfInBounds, hlt]) (by simp) (fun q hq => by simp [Array.getElem?_setIfInBounds, Ne.symm hq]))
/-! the combinators of fields -/
def i_getI (ci k : Nat) (F : Fn) : Fn := fun L S h => match S with
  | .ref i :: S => if sh i = (0, ci) ∧ i < gN h then F L (.int (gI h i k) :: S) h else none
  | _ => none
def i_getL (ci k : Nat) (F : Fn) : Fn := fun L S h => match S with
  | .ref i :: S => if sh i = (0, ci) ∧ i < gN h then F L (.long (gL h i k) :: S) h else none
  | _ => none
def i_getR (ci k : Nat) (F : Fn) : Fn := fun L S h => match S with
  | .ref i :: S => if sh i = (0, ci) ∧ i < gN h then F L (rv (gR h i k) :: S) h else none
  | _ => none
theorem sn_getI (A : Act p l s m args meth c wd own cc nL ret) {index ci k : Nat} {ty0 : FieldType} {fin : Bool} (d : decode cc pc = .ok (.getfield index, 3)) (lk : LkF own index ci k ty0 fin) (hk : fk ci k = 0) (kk : Snd p l e R s m args below meth c wd nL QF nc nw (pc + 3) F) : Snd p l e R s m args below meth c wd nL QF nc nw pc (i_getI ci k F) := by
  intro L S h o H locs cells slots ls hf hn hL hP hS h1 h2
  unfold i_getI at hf
  split at hf
  · split at hf
    · next hi => exact W_get A d lk hP hi (by rw [← cv_fv0 hk]; exact kk L _ h o H locs cells slots ls hf hn hL hP hS h1 h2)
    · cases hf
  · cases hf
theorem sn_getL (A : Act p l s m args meth c wd own cc nL ret) {index ci k : Nat} {ty0 : FieldType} {fin : Bool} (d : decode cc pc = .ok (.getfield index, 3)) (lk : LkF own index ci k ty0 fin) (hk : fk ci k = 1) (kk : Snd p l e R s m args below meth c wd nL QF nc nw (pc + 3) F) : Snd p l e R s m args below meth c wd nL QF nc nw pc (i_getL ci k F) := by
  intro L S h o H locs cells slots ls hf hn hL hP hS h1 h2
  unfold i_getL at hf
  split at hf
  · split at hf
    · next hi => exact W_get A d lk hP hi (by rw [← cv_fv1 hk]; exact kk L _ h o H locs cells slots ls hf hn hL hP hS h1 h2)
    · cases hf
  · cases hf
theorem sn_getR (A : Act p l s m args meth c wd own cc nL ret) {index ci k : Nat} {ty0 : FieldType} {fin : Bool} (d : decode cc pc = .ok (.getfield index, 3)) (lk : LkF own index ci k ty0 fin) (hk : fk ci k = 2) (kk : Snd p l e R s m args below meth c wd nL QF nc nw (pc + 3) F) : Snd p l e R s m args below meth c wd nL QF nc nw pc (i_getR ci k F) := by
  intro L S h o H locs cells slots ls hf hn hL hP hS h1 h2
  unfold i_getR at hf
  split at hf
  · split at hf
    · next hi => exact W_get A d lk hP hi (by rw [← cv_fv2 hk]; exact kk L _ h o H locs cells slots ls hf hn hL hP hS h1 h2)
    · cases hf
  · cases hf
theorem fv_sI_ne {h : AH} {ci i k : Nat} {v : Int32} {j : Nat} (hj : j ≠ k) : fv wd (sI h i k v) ci i j = fv wd h ci i j := by
  have e1 : gI (sI h i k v) i j = gI h i j := by simp [gI, sI, up2, hj]
  unfold fv; rw [e1]; rfl
theorem fv_sL_ne {h : AH} {ci i k : Nat} {v : Int64} {j : Nat} (hj : j ≠ k) : fv wd (sL h i k v) ci i j = fv wd h ci i j := by
  have e1 : gL (sL h i k v) i j = gL h i j := by simp [gL, sL, up2, hj]
  unfold fv; rw [e1]; rfl
theorem fv_sR_ne {h : AH} {ci i k : Nat} {v : Option Nat} {j : Nat} (hj : j ≠ k) : fv wd (sR h i k v) ci i j = fv wd h ci i j := by
  have e1 : gR (sR h i k v) i j = gR h i j := by simp [gR, sR, up2, hj]
  unfold fv; rw [e1]; rfl
theorem fv_sI {h : AH} {ci i k : Nat} {v : Int32} (hk : fk ci k = 0) : fv wd (sI h i k v) ci i k = .int v := by unfold fv; rw [hk]; simp [gI, sI, up2]
theorem fv_sL {h : AH} {ci i k : Nat} {v : Int64} (hk : fk ci k = 1) : fv wd (sL h i k v) ci i k = .long v := by unfold fv; rw [hk]; simp [gL, sL, up2]
theorem fv_sR {h : AH} {ci i k : Nat} {v : Option Nat} (hk : fk ci k = 2) : fv wd (sR h i k v) ci i k = va_re wd.2.1 v := by unfold fv; rw [hk]; simp [gR, sR, up2]
def i_putI (ci k : Nat) (F : Fn) : Fn := fun L S h => match S with
  | .int x :: .ref i :: S => if sh i = (0, ci) ∧ i < gN h then F L S (sI h i k x) else none
  | _ => none
def i_putZ (ci k : Nat) (F : Fn) : Fn := fun L S h => match S with
  | .int x :: .ref i :: S => if (x = 0 ∨ x = 1) ∧ sh i = (0, ci) ∧ i < gN h then F L S (sI h i k x) else none
  | _ => none
def i_putL (ci k : Nat) (F : Fn) : Fn := fun L S h => match S with
  | .long x :: .ref i :: S => if sh i = (0, ci) ∧ i < gN h then F L S (sL h i k x) else none
  | _ => none
def i_putR (ci k : Nat) (F : Fn) : Fn := fun L S h => match S with
  | .ref j :: .ref i :: S => if sh i = (0, ci) ∧ i < gN h then F L S (sR h i k (some j)) else none
  | _ => none
theorem sn_putI (A : Act p l s m args meth c wd own cc nL ret) {index ci k : Nat} (d : decode cc pc = .ok (.putfield index, 3)) (lk : LkF own index ci k .int false) (hk : fk ci k = 0) (kk : Snd p l e R s m args below meth c wd nL QF nc nw (pc + 3) F) : Snd p l e R s m args below meth c wd nL QF nc nw pc (i_putI ci k F) := by
  intro L S h o H locs cells slots ls hf hn hL hP hS h1 h2
  unfold i_putI at hf
  split at hf
  · split at hf
    · next x i S1 hi => exact W_put (h' := sI h i k x) A d lk hP hS hi rfl rfl rfl rfl (fv_sI hk) (fun j hj => fv_sI_ne hj) (fun j hj => ent_sI_ne hj) (fun H1 locs1 g1 g2 => kk L _ _ o H1 locs1 cells slots ls hf hn hL g1 g2 h1 h2)
    · cases hf
  · cases hf
theorem sn_putZ (A : Act p l s m args meth c wd own cc nL ret) {index ci k : Nat} (d : decode cc pc = .ok (.putfield index, 3)) (lk : LkF own index ci k .boolean false) (hk : fk ci k = 0) (kk : Snd p l e R s m args below meth c wd nL QF nc nw (pc + 3) F) : Snd p l e R s m args below meth c wd nL QF nc nw pc (i_putZ ci k F) := by
  intro L S h o H locs cells slots ls hf hn hL hP hS h1 h2
  unfold i_putZ at hf
  split at hf
  · split at hf
    · next x i S1 hi => exact W_put (h' := sI h i k x) A d lk hP hS hi.2 (by rcases hi.1 with rfl | rfl <;> rfl) (by rcases hi.1 with rfl | rfl <;> rfl) rfl rfl (fv_sI hk) (fun j hj => fv_sI_ne hj) (fun j hj => ent_sI_ne hj) (fun H1 locs1 g1 g2 => kk L _ _ o H1 locs1 cells slots ls hf hn hL g1 g2 h1 h2)
    · cases hf
  · cases hf
theorem sn_putL (A : Act p l s m args meth c wd own cc nL ret) {index ci k : Nat} (d : decode cc pc = .ok (.putfield index, 3)) (lk : LkF own index ci k .long false) (hk : fk ci k = 1) (kk : Snd p l e R s m args below meth c wd nL QF nc nw (pc + 3) F) : Snd p l e R s m args below meth c wd nL QF nc nw pc (i_putL ci k F) := by
  intro L S h o H locs cells slots ls hf hn hL hP hS h1 h2
  unfold i_putL at hf
  split at hf
  · split at hf
    · next x i S1 hi => exact W_put (h' := sL h i k x) A d lk hP hS hi rfl rfl rfl rfl (fv_sL hk) (fun j hj => fv_sL_ne hj) (fun j hj => ent_sL_ne hj) (fun H1 locs1 g1 g2 => kk L _ _ o H1 locs1 cells slots ls hf hn hL g1 g2 h1 h2)
    · cases hf
  · cases hf
def isRT (ty : FieldType) : Prop := (∃ n, ty = .object n) ∨ ∃ t, ty = .array t
theorem isRT_n {ty : FieldType} (h : isRT ty) (a : Nat) : narrow ty (.ref a) = .ref a ∧ fits ty (.ref a) = true := by rcases h with ⟨n, rfl⟩ | ⟨t, rfl⟩ <;> exact ⟨rfl, rfl⟩
theorem sn_putR (A : Act p l s m args meth c wd own cc nL ret) {index ci k : Nat} {ty0 : FieldType} (d : decode cc pc = .ok (.putfield index, 3)) (lk : LkF own index ci k ty0 false) (ht : isRT ty0) (hk : fk ci k = 2) (kk : Snd p l e R s m args below meth c wd nL QF nc nw (pc + 3) F) : Snd p l e R s m args below meth c wd nL QF nc nw pc (i_putR ci k F) := by
  intro L S h o H locs cells slots ls hf hn hL hP hS h1 h2
  unfold i_putR at hf
  split at hf
  · split at hf
    · next x i S1 hi => exact W_put (h' := sR h i k (some x)) A d lk hP hS hi (isRT_n ht _).1 (isRT_n ht _).2 rfl rfl (fv_sR hk) (fun j hj => fv_sR_ne hj) (fun j hj => ent_sR_ne hj) (fun H1 locs1 g1 g2 => kk L _ _ o H1 locs1 cells slots ls hf hn hL g1 g2 h1 h2)
    · cases hf
  · cases hf
theorem sn_putRF (A : Act p l s m args meth c wd own cc nL ret) {index ci k : Nat} {ty0 : FieldType} (d : decode cc pc = .ok (.putfield index, 3)) (lk : LkF own index ci k ty0 true) (hin : meth.name = "<init>") (hcl : (vwCl[ci]?).map (·.1) = some own) (ht : isRT ty0) (hk : fk ci k = 2) (kk : Snd p l e R s m args below meth c wd nL QF nc nw (pc + 3) F) : Snd p l e R s m args below meth c wd nL QF nc nw pc (i_putR ci k F) := by
  intro L S h o H locs cells slots ls hf hn hL hP hS h1 h2
  unfold i_putR at hf
  split at hf
  · split at hf
    · next x i S1 hi => exact W_putF (h' := sR h i k (some x)) A d lk hin hcl hP hS hi (isRT_n ht _).1 (isRT_n ht _).2 rfl rfl (fv_sR hk) (fun j hj => fv_sR_ne hj) (fun j hj => ent_sR_ne hj) (fun H1 locs1 g1 g2 => kk L _ _ o H1 locs1 cells slots ls hf hn hL g1 g2 h1 h2)
    · cases hf
  · cases hf
/-! rows -/
theorem vp_in_of2 {j : Int32} {n : Nat} (h : ¬ j < 0 ∧ j.toNatClampNeg < n) : vp_in j n := fun q => q.elim h.1 (fun z => by omega)
theorem sh_pair {i a : Nat} (h : (sh i).1 = a) : sh i = (a, (sh i).2) := by rw [← h]
def i_iaload (F : Fn) : Fn := fun L S h => match S with
  | .int j :: .ref i :: S => if (sh i).1 = 1 ∧ i < gN h ∧ ¬ j < 0 ∧ j.toNatClampNeg < (sh i).2 then F L (.int (gI h i j.toNatClampNeg) :: S) h else none
  | _ => none
def i_baload (F : Fn) : Fn := fun L S h => match S with
  | .int j :: .ref i :: S => if (sh i).1 = 2 ∧ i < gN h ∧ ¬ j < 0 ∧ j.toNatClampNeg < (sh i).2 then F L (.int (gI h i j.toNatClampNeg) :: S) h else none
  | _ => none
def i_laload (F : Fn) : Fn := fun L S h => match S with
  | .int j :: .ref i :: S => if (sh i).1 = 3 ∧ i < gN h ∧ ¬ j < 0 ∧ j.toNatClampNeg < (sh i).2 then F L (.long (gL h i j.toNatClampNeg) :: S) h else none
  | _ => none
def i_aaload (F : Fn) : Fn := fun L S h => match S with
  | .int j :: .ref i :: S => if (sh i).1 = 4 ∧ i < gN h ∧ ¬ j < 0 ∧ j.toNatClampNeg < (sh i).2 then F L (rv (gR h i j.toNatClampNeg) :: S) h else none
  | _ => none
theorem sn_iaload (A : Act p l s m args meth c wd own cc nL ret) (d : decode cc pc = .ok (.iaload, 1)) (kk : Snd p l e R s m args below meth c wd nL QF nc nw (pc + 1) F) : Snd p l e R s m args below meth c wd nL QF nc nw pc (i_iaload F) := by
  intro L S h o H locs cells slots ls hf hn hL hP hS h1 h2
  unfold i_iaload at hf
  split at hf
  · split at hf
    · next j i S1 hi =>
      have he := wsO_get wd h hi.2.1
      rw [ent_i (sh_pair hi.1)] at he
      exact va_iald A.exA A.ccA A.kkA.kK hP.1 i 0 he rfl (vp_in_of2 hi.2.2) d (kk L _ h o H locs cells slots ls hf hn hL hP hS h1 h2)
    · cases hf
  · cases hf
theorem sn_baload (A : Act p l s m args meth c wd own cc nL ret) (d : decode cc pc = .ok (.baload, 1)) (kk : Snd p l e R s m args below meth c wd nL QF nc nw (pc + 1) F) : Snd p l e R s m args below meth c wd nL QF nc nw pc (i_baload F) := by
  intro L S h o H locs cells slots ls hf hn hL hP hS h1 h2
  unfold i_baload at hf
  split at hf
  · split at hf
    · next j i S1 hi =>
      have he := wsO_get wd h hi.2.1
      rw [ent_b (sh_pair hi.1)] at he
      exact va_bald A.exA A.ccA A.kkA.kK hP.1 i 1 he rfl (vp_in_of2 hi.2.2) d (kk L _ h o H locs cells slots ls hf hn hL hP hS h1 h2)
    · cases hf
  · cases hf
theorem sn_laload (A : Act p l s m args meth c wd own cc nL ret) (d : decode cc pc = .ok (.laload, 1)) (kk : Snd p l e R s m args below meth c wd nL QF nc nw (pc + 1) F) : Snd p l e R s m args below meth c wd nL QF nc nw pc (i_laload F) := by
  intro L S h o H locs cells slots ls hf hn hL hP hS h1 h2
  unfold i_laload at hf
  split at hf
  · split at hf
    · next j i S1 hi =>
      have he := wsO_get wd h hi.2.1
      rw [ent_l (sh_pair hi.1)] at he
      exact va_lald A.exA A.ccA A.kkA.kK hP.1 i 2 he rfl (vp_in_of2 hi.2.2) d (kk L _ h o H locs cells slots ls hf hn hL hP hS h1 h2)
    · cases hf
  · cases hf
theorem sn_aaload (A : Act p l s m args meth c wd own cc nL ret) (d : decode cc pc = .ok (.aaload, 1)) (kk : Snd p l e R s m args below meth c wd nL QF nc nw (pc + 1) F) : Snd p l e R s m args below meth c wd nL QF nc nw pc (i_aaload F) := by
  intro L S h o H locs cells slots ls hf hn hL hP hS h1 h2
  unfold i_aaload at hf
  split at hf
  · split at hf
    · next j i S1 hi =>
      have he := wsO_get wd h hi.2.1
      rw [ent_q (sh_pair hi.1)] at he
      refine va_aldq A.exA A.ccA A.kkA.kK hP.1 i 3 he rfl (vp_in_of2 hi.2.2) d ?_
      have e1 : va_rf ((gR h i j.toNatClampNeg).map wd.2.1) = cv wd (rv (gR h i j.toNatClampNeg)) := (cv_rv wd _).symm
      show W p l e R s m args below meth c H locs cells slots (QF o) (F0 m (pc + 1) ls (va_rf ((gR h i j.toNatClampNeg).map wd.2.1) :: S1.map (cv wd)))
      rw [e1]
      exact kk L _ h o H locs cells slots ls hf hn hL hP hS h1 h2
    · cases hf
  · cases hf
def i_alen (F : Fn) : Fn := fun L S h => match S with
  | .ref i :: S => if ¬ (sh i).1 = 0 ∧ (sh i).1 < 5 ∧ i < gN h then F L (.int (Int32.ofNat (sh i).2) :: S) h else none
  | _ => none
theorem sn_alen (A : Act p l s m args meth c wd own cc nL ret) (d : decode cc pc = .ok (.arraylength, 1)) (kk : Snd p l e R s m args below meth c wd nL QF nc nw (pc + 1) F) : Snd p l e R s m args below meth c wd nL QF nc nw pc (i_alen F) := by
  intro L S h o H locs cells slots ls hf hn hL hP hS h1 h2
  unfold i_alen at hf
  split at hf
  · split at hf
    · next i S1 hi =>
      have he := wsO_get wd h hi.2.2
      have hh : ∃ a, (sh i).1 = a := ⟨_, rfl⟩
      obtain ⟨a, ha⟩ := hh
      have hk := kk L _ h o H locs cells slots ls hf hn hL hP hS h1 h2
      rcases (show a = 1 ∨ a = 2 ∨ a = 3 ∨ a = 4 by omega) with rfl | rfl | rfl | rfl
      · rw [ent_i (sh_pair ha)] at he
        exact va_alen A.exA A.ccA A.kkA.kK hP.1 i 0 he rfl rfl d hk
      · rw [ent_b (sh_pair ha)] at he
        exact va_alen A.exA A.ccA A.kkA.kK hP.1 i 1 he rfl rfl d hk
      · rw [ent_l (sh_pair ha)] at he
        exact va_alen A.exA A.ccA A.kkA.kK hP.1 i 2 he rfl rfl d hk
      · rw [ent_q (sh_pair ha)] at he
        exact va_alen A.exA A.ccA A.kkA.kK hP.1 i 3 he rfl rfl d hk
    · cases hf
  · cases hf
theorem PH.upd {h h' : AH} {H H1 : Heap} {i : Nat} {e0 e : va_E} (A : Act p l s m args meth c wd own cc nL ret) (hP : PH wd h H) (hi : i < gN h) (he : va_at wd.2.2.1 vwCl (wd.2.1 i, e) H1) (hz : H1.size = H.size) (oq : ∀ q : Nat, q ≠ wd.2.1 i → H1[q]? = H[q]?) (hN : gN h' = gN h) (hX : gX h' = gX h) (hv : ent wd h' i = e) (ho : ∀ j, j ≠ i → ent wd h' j = ent wd h j) : PH wd h' H1 := by
  have g1 := hP.1.set (A.D hP) (wsO_get wd h hi) he oq
  rw [wsO_set hN hv ho] at g1
  exact ⟨g1, by rw [hN]; exact hP.2.1, by rw [hX, hN, hz]; exact hP.2.2⟩
def i_iastore (F : Fn) : Fn := fun L S h => match S with
  | .int x :: .int j :: .ref i :: S => if (sh i).1 = 1 ∧ i < gN h ∧ ¬ j < 0 ∧ j.toNatClampNeg < (sh i).2 then F L S (sI h i j.toNatClampNeg x) else none
  | _ => none
def i_bastore (F : Fn) : Fn := fun L S h => match S with
  | .int x :: .int j :: .ref i :: S => if (sh i).1 = 2 ∧ i < gN h ∧ ¬ j < 0 ∧ j.toNatClampNeg < (sh i).2 then F L S (sI h i j.toNatClampNeg x.toInt8.toInt32) else none
  | _ => none
def i_lastore (F : Fn) : Fn := fun L S h => match S with
  | .long x :: .int j :: .ref i :: S => if (sh i).1 = 3 ∧ i < gN h ∧ ¬ j < 0 ∧ j.toNatClampNeg < (sh i).2 then F L S (sL h i j.toNatClampNeg x) else none
  | _ => none
theorem up_sI (h : AH) (i k : Nat) (x : Int32) : gI (sI h i k x) i = fun j => if j = k then x else gI h i j := by funext j; simp [gI, sI, up2]
theorem up_sL (h : AH) (i k : Nat) (x : Int64) : gL (sL h i k x) i = fun j => if j = k then x else gL h i j := by funext j; simp [gL, sL, up2]
theorem up_sR (h : AH) (i k : Nat) (x : Option Nat) : gR (sR h i k x) i = fun j => if j = k then x else gR h i j := by funext j; simp [gR, sR, up2]
theorem sn_iastore (A : Act p l s m args meth c wd own cc nL ret) (d : decode cc pc = .ok (.iastore, 1)) (kk : Snd p l e R s m args below meth c wd nL QF nc nw (pc + 1) F) : Snd p l e R s m args below meth c wd nL QF nc nw pc (i_iastore F) := by
  intro L S h o H locs cells slots ls hf hn hL hP hS h1 h2
  unfold i_iastore at hf
  split at hf
  · split at hf
    · next x j i S1 hi =>
      have he := wsO_get wd h hi.2.1
      rw [ent_i (sh_pair hi.1)] at he
      have hin := vp_in_of2 hi.2.2
      refine W.iast A.exA A.ccA (hP.1 i _ he) ((A.kkA.kK.2 0 _ rfl).1 (sh i).2 (fun j => .int (gI h i j))) (fun q => by cases q) (by show ¬ (_ < 0 ∨ (arrV _ _ _).slots.size ≤ _); rw [arrV_size]; exact hin) rfl rfl d fun H1 e1 z oq => ?_
      refine kk L _ _ o H1 _ cells slots ls hf hn hL (PH.upd (e0 := ent wd h i) (e := .inl (wd.2.2.2 0, (sh i).2, .inl (gI (sI h i j.toNatClampNeg x) i))) A hP hi.2.1 ?_ z oq rfl rfl (ent_i (sh_pair hi.1)) (fun j hj => ent_sI_ne hj)) (hS.put z oq ((A.D hP).2 i _ he)) h1 h2
      show H1[wd.2.1 i]? = some (vp_cell _ _)
      rw [e1, up_sI, vp_cell_i, vp_cell_i, arrV_store]
      congr 2
      funext q
      by_cases hq : q = j.toNatClampNeg
      · subst hq; simp [updV]
      · simp [updV, hq]
    · cases hf
  · cases hf
theorem sn_bastore (A : Act p l s m args meth c wd own cc nL ret) (d : decode cc pc = .ok (.bastore, 1)) (kk : Snd p l e R s m args below meth c wd nL QF nc nw (pc + 1) F) : Snd p l e R s m args below meth c wd nL QF nc nw pc (i_bastore F) := by
  intro L S h o H locs cells slots ls hf hn hL hP hS h1 h2
  unfold i_bastore at hf
  split at hf
  · split at hf
    · next x j i S1 hi =>
      have he := wsO_get wd h hi.2.1
      rw [ent_b (sh_pair hi.1)] at he
      have hin := vp_in_of2 hi.2.2
      refine W.bast A.exA A.ccA (hP.1 i _ he) ((A.kkA.kK.2 1 _ rfl).1 (sh i).2 (fun j => .int (gI h i j))) (fun q => by cases q) (by show ¬ (_ < 0 ∨ (arrV _ _ _).slots.size ≤ _); rw [arrV_size]; exact hin) rfl rfl d fun H1 e1 z oq => ?_
      refine kk L _ _ o H1 _ cells slots ls hf hn hL (PH.upd (e0 := ent wd h i) (e := .inl (wd.2.2.2 1, (sh i).2, .inl (gI (sI h i j.toNatClampNeg x.toInt8.toInt32) i))) A hP hi.2.1 ?_ z oq rfl rfl (ent_b (sh_pair hi.1)) (fun j hj => ent_sI_ne hj)) (hS.put z oq ((A.D hP).2 i _ he)) h1 h2
      show H1[wd.2.1 i]? = some (vp_cell _ _)
      have e2 : narrow .byte (.int x) = .int x.toInt8.toInt32 := rfl
      rw [e1, up_sI, vp_cell_i, vp_cell_i, e2, arrV_store]
      congr 2
      funext q
      by_cases hq : q = j.toNatClampNeg
      · subst hq; simp [updV]
      · simp [updV, hq]
    · cases hf
  · cases hf
theorem sn_lastore (A : Act p l s m args meth c wd own cc nL ret) (d : decode cc pc = .ok (.lastore, 1)) (kk : Snd p l e R s m args below meth c wd nL QF nc nw (pc + 1) F) : Snd p l e R s m args below meth c wd nL QF nc nw pc (i_lastore F) := by
  intro L S h o H locs cells slots ls hf hn hL hP hS h1 h2
  unfold i_lastore at hf
  split at hf
  · split at hf
    · next x j i S1 hi =>
      have he := wsO_get wd h hi.2.1
      rw [ent_l (sh_pair hi.1)] at he
      have hin := vp_in_of2 hi.2.2
      refine W.last A.exA A.ccA (hP.1 i _ he) ((A.kkA.kK.2 2 _ rfl).1 (sh i).2 (fun j => .long (gL h i j))) (fun q => by cases q) (by show ¬ (_ < 0 ∨ (arrV _ _ _).slots.size ≤ _); rw [arrV_size]; exact hin) rfl rfl d fun H1 e1 z oq => ?_
      refine kk L _ _ o H1 _ cells slots ls hf hn hL (PH.upd (e0 := ent wd h i) (e := .inl (wd.2.2.2 2, (sh i).2, .inr (.inl (gL (sL h i j.toNatClampNeg x) i)))) A hP hi.2.1 ?_ z oq rfl rfl (ent_l (sh_pair hi.1)) (fun j hj => ent_sL_ne hj)) (hS.put z oq ((A.D hP).2 i _ he)) h1 h2
      show H1[wd.2.1 i]? = some (vp_cell _ _)
      rw [e1, up_sL, vp_cell_l, vp_cell_l, arrV_store]
      congr 2
      funext q
      by_cases hq : q = j.toNatClampNeg
      · subst hq; simp [updV]
      · simp [updV, hq]
    · cases hf
  · cases hf
end HEAP
