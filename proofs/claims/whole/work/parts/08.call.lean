section CALL
variable {p : Program} {l : Launch} {e : Env} {R : Room} {s : State} {m : MethodId} {args : Array Value} {below : List Frame} {meth : Method} {c : Code} {wd : WD} {own : String} {cc : ByteArray} {nL : Nat} {ret : Option FieldType} {nc nw pc : Nat} {F G : Fn}
/-! what a method does, said over the machine -/
def exN : Nat → String
  | 0 => "java/lang/IndexOutOfBoundsException"
  | _ => "java/lang/IllegalArgumentException"
def QcO (wd : WD) (o : Ou) : Array Value → State → Outcome → State → Prop := fun _ st oc t => (∃ v h', o = (.inl v, h') ∧ oc = .returned (v.map (cv wd)) ∧ PH wd h' t.heap) ∧ va_F (AO wd) st t
def XcO (wd : WD) (o : Ou) : String → State → State → Prop := fun E st t => (∃ x h', o = (.inr x, h') ∧ E = exN x ∧ PH wd h' t.heap) ∧ va_F (AO wd) st t
def rmO (d mc ms : Nat) : Room := { frames := d, cells := mc, slots := ms, locals := 48 * d }
def CT (l : Launch) (wd : WD) (y : MethodName) (bytes : ByteArray) (maxL : Nat) (ret : Option FieldType) (d mc ms : Nat) (f : List Value → AH → Option Ou) : Prop :=
  ∀ (av : List Value) (h : AH) (o : Ou), f av h = some o → vx_Met l y (Cond.code y bytes maxL ret :: TS) (rmO d mc ms) (va_Pc (av.map (cv wd)) (fun U => PH wd h U.heap ∧ KK l wd U)) (QcO wd o) (XcO wd o) mc ms (AO wd)
/-- the end that a body owes -/
def QO (below : List Frame) (wd : WD) (args : Array Value) (s : State) (mc ms : Nat) : Ou → State → Prop := fun o => vx_MQ below (QcO wd o) (XcO wd o) args s mc ms (AO wd)
/-- the locals at the entry -/
def entA : List Value → Lc
  | [] => []
  | v :: vs => if v.category = 2 then some v :: none :: entA vs else some v :: entA vs
def entL (nL : Nat) (av : List Value) : Lc := entA av ++ List.replicate (nL - (entA av).length) none
theorem entA_len (wd : WD) (av : List Value) : (entA av).length = (lg_sl (av.map (cv wd))).length := by
  induction av with
  | nil => rfl
  | cons v vs ih =>
    unfold lg_sl at ih ⊢
    simp only [List.map_cons, List.flatMap_cons, List.length_append, entA, cv_cat]
    rw [← ih]
    split <;> simp <;> omega
theorem entA_get (wd : WD) (av : List Value) : ∀ (i : Nat) (v : Value) (k : Nat), (entA av)[i]? = some (some v) → (k + i, cv wd v) ∈ lv_args k (av.map (cv wd)) := by
  induction av with
  | nil => intro i v k h; simp [entA] at h
  | cons w vs ih =>
    intro i v k h
    simp only [entA] at h
    simp only [List.map_cons, lv_args, cv_cat]
    by_cases hw : w.category = 2
    · rw [if_pos hw] at h
      rw [if_pos hw]
      match i, h with
      | 0, h =>
        simp at h
        subst h
        exact List.mem_cons_self
      | 1, h => simp at h
      | i + 2, h =>
        have := ih i v (k + 2) (by simpa using h)
        rw [show k + (i + 2) = k + 2 + i by omega]
        exact List.mem_cons_of_mem _ this
    · rw [if_neg hw] at h
      rw [if_neg hw]
      match i, h with
      | 0, h =>
        simp at h
        subst h
        exact List.mem_cons_self
      | i + 1, h =>
        have := ih i v (k + 1) (by simpa using h)
        rw [show k + (i + 1) = k + 1 + i by omega]
        exact List.mem_cons_of_mem _ this
theorem entL_LR (wd : WD) (av : List Value) {nL : Nat} (hn : (entA av).length ≤ nL) : LR wd nL ((lg_sl (av.map (cv wd)) ++ List.replicate (nL - (lg_sl (av.map (cv wd))).length) Slot.unset).toArray) (entL nL av) := by
  have h := lv_entry (av.map (cv wd)) (n := nL) (by rw [← entA_len]; exact hn)
  refine ⟨h.1, h.2.1, fun i v hv => ?_⟩
  unfold entL at hv
  rw [List.getElem?_append] at hv
  split at hv
  · have := entA_get wd av i v 0 hv
    rw [Nat.zero_add] at this
    exact h.2.2 _ this
  · rw [List.getElem?_replicate] at hv
    split at hv <;> cases hv
theorem entL_len (av : List Value) {nL : Nat} (hn : (entA av).length ≤ nL) : (entL nL av).length = nL := by
  unfold entL
  simp
  omega
/-- a contract out of the body's walk -/
theorem CT.of {l : Launch} {wd : WD} {y : MethodName} {bytes : ByteArray} {nL : Nat} {ret : Option FieldType} {d mc ms : Nat} {f : List Value → AH → Option Ou} {F : Fn} (hy : plainName y.cls = true)
    (hf : ∀ av h o, f av h = some o → (entA av).length ≤ nL ∧ F (entL nL av) [] h = some o)
    (body : ∀ (p : Program) (e : Env) (s : State) (m : MethodId) (args : Array Value) (below : List Frame) (meth : Method) (c : Code), Act p l s m args meth c wd y.cls bytes nL ret → meth.name = y.name → (∀ x ∈ c.exceptionTable.toList, False) →
      Snd p l e (rmO d mc ms) s m args below meth c wd nL (QO below wd args s mc ms) mc ms 0 F) : CT l wd y bytes nL ret d mc ms f := by
  intro av h o hfo
  obtain ⟨hn, hF⟩ := hf av h o hfo
  refine vx_ofW (cc := bytes) (maxL := nL) (ret := ret) (ws' := TS) hy rfl ?_
  intro p e s m args below meth c s₁ B hml hex hv
  obtain ⟨rfl, hP, hK⟩ := hv
  have hts : ∀ w ∈ TS, w.before (av.map (cv wd)).toArray s = true := fun w hw => atoms_spec (ws := Cond.code y bytes nL ret :: TS) B.pre w (List.mem_cons_of_mem _ hw)
  have A : Act p l s m (av.map (cv wd)).toArray meth c wd y.cls bytes nL ret := ⟨B.exec, B.bytes, hml, findClass_of_methodNamed B.named, B.returns, B.notSynchronized, hts, hK⟩
  have hname : meth.name = y.name := (name_of_methodNamed B.named B.method).1
  rw [lg_entry_eq]
  exact body p e s m _ below meth c A hname hex (entL nL av) [] h o s.heap [] 0 0 _ hF (entL_len av hn) (entL_LR wd av hn) hP va_S.rf (by simp [rmO]) (by simp [rmO])
/-! ends -/
def i_ireturn : Fn := fun _ S h => match S with
  | [.int x] => some (.inl (some (.int x)), h)
  | _ => none
def i_zreturn : Fn := fun _ S h => match S with
  | [.int x] => if x = 0 ∨ x = 1 then some (.inl (some (.int x)), h) else none
  | _ => none
def i_creturn : Fn := fun _ S h => match S with
  | [.int x] => if (x.toUInt32 % 65536).toInt32 = x then some (.inl (some (.int x)), h) else none
  | _ => none
def i_breturn : Fn := fun _ S h => match S with
  | [.int x] => if x.toInt8.toInt32 = x then some (.inl (some (.int x)), h) else none
  | _ => none
def i_areturn : Fn := fun _ S h => match S with
  | [.ref x] => some (.inl (some (.ref x)), h)
  | [.null] => some (.inl (some .null), h)
  | _ => none
def i_return : Fn := fun _ S h => match S with
  | [] => some (.inl none, h)
  | _ => none
theorem W_end {v : Option Value} {h : AH} {H : Heap} {locs : List Loc} {cells slots mc ms : Nat} {ls : Array Slot} {st : List Value} (hP : PH wd h H) (hS : va_S (AO wd) s.heap H locs) (h1 : cells ≤ mc) (h2 : slots ≤ ms)
    (k : ∀ Qc : Array Value → State → Outcome → State → Prop, (∀ t : State, t.heap = H → s.WarmedH t.vm → Qc args s (.returned (v.map (cv wd))) t) → W p l e R s m args below meth c H locs mc ms (MQ below Qc args s mc ms (AO wd)) (F0 m pc ls st)) :
    W p l e R s m args below meth c H locs cells slots (QO below wd args s mc ms (.inl v, h)) (F0 m pc ls st) :=
  W.widen h1 h2 (vx_ret (k _ (fun t ht _ => ⟨⟨v, h, rfl, rfl, by rw [ht]; exact hP⟩, hS.F ht⟩)))
theorem sn_ireturn {mc ms : Nat} (A : Act p l s m args meth c wd own cc nL (some .int)) (hR : R.cells = mc ∧ R.slots = ms) (d : decode cc pc = .ok (.ireturn, 1)) : Snd p l e R s m args below meth c wd nL (QO below wd args s mc ms) nc nw pc i_ireturn := by
  intro L S h o H locs cells slots ls hf hn hL hP hS h1 h2
  unfold i_ireturn at hf
  split at hf
  · cases hf
    exact W_end hP hS (by omega) (by omega) (fun Qc hq => W.iret A.exA A.ccA A.retA hq hS.2.2 d A.lkA)
  · cases hf
theorem sn_zreturn {mc ms : Nat} (A : Act p l s m args meth c wd own cc nL (some .boolean)) (hR : R.cells = mc ∧ R.slots = ms) (d : decode cc pc = .ok (.ireturn, 1)) : Snd p l e R s m args below meth c wd nL (QO below wd args s mc ms) nc nw pc i_zreturn := by
  intro L S h o H locs cells slots ls hf hn hL hP hS h1 h2
  unfold i_zreturn at hf
  split at hf
  · split at hf
    · next x hx =>
      cases hf
      exact W_end hP hS (by omega) (by omega) (fun Qc hq => W.zret A.exA A.ccA A.retA (by rcases hx with rfl | rfl <;> rfl) hq hS.2.2 d A.lkA)
    · cases hf
  · cases hf
theorem sn_creturn {mc ms : Nat} (A : Act p l s m args meth c wd own cc nL (some .char)) (hR : R.cells = mc ∧ R.slots = ms) (d : decode cc pc = .ok (.ireturn, 1)) : Snd p l e R s m args below meth c wd nL (QO below wd args s mc ms) nc nw pc i_creturn := by
  intro L S h o H locs cells slots ls hf hn hL hP hS h1 h2
  unfold i_creturn at hf
  split at hf
  · split at hf
    · next x hx =>
      cases hf
      exact W_end hP hS (by omega) (by omega) (fun Qc hq => W.zret A.exA A.ccA A.retA (by have := pk_nc x; rw [hx] at this; exact this) hq hS.2.2 d A.lkA)
    · cases hf
  · cases hf
theorem sn_breturn {mc ms : Nat} (A : Act p l s m args meth c wd own cc nL (some .byte)) (hR : R.cells = mc ∧ R.slots = ms) (d : decode cc pc = .ok (.ireturn, 1)) : Snd p l e R s m args below meth c wd nL (QO below wd args s mc ms) nc nw pc i_breturn := by
  intro L S h o H locs cells slots ls hf hn hL hP hS h1 h2
  unfold i_breturn at hf
  split at hf
  · split at hf
    · next x hx =>
      cases hf
      exact W_end hP hS (by omega) (by omega) (fun Qc hq => W.zret A.exA A.ccA A.retA (by have := pk_nb x; rw [hx] at this; exact this) hq hS.2.2 d A.lkA)
    · cases hf
  · cases hf
theorem sn_areturn {mc ms : Nat} {C : String} (A : Act p l s m args meth c wd own cc nL (some (.object C))) (hR : R.cells = mc ∧ R.slots = ms) (d : decode cc pc = .ok (.areturn, 1)) : Snd p l e R s m args below meth c wd nL (QO below wd args s mc ms) nc nw pc i_areturn := by
  intro L S h o H locs cells slots ls hf hn hL hP hS h1 h2
  unfold i_areturn at hf
  split at hf
  · cases hf
    exact W_end hP hS (by omega) (by omega) (fun Qc hq => W.aret A.exA A.ccA A.retA (Or.inl ⟨_, rfl⟩) (Or.inr ⟨_, rfl⟩) hq hS.2.2 d A.lkA)
  · cases hf
    exact W_end hP hS (by omega) (by omega) (fun Qc hq => W.aret A.exA A.ccA A.retA (Or.inl ⟨_, rfl⟩) (Or.inl rfl) hq hS.2.2 d A.lkA)
  · cases hf
theorem sn_return {mc ms : Nat} (A : Act p l s m args meth c wd own cc nL none) (hR : R.cells = mc ∧ R.slots = ms) (d : decode cc pc = .ok (.return_, 1)) : Snd p l e R s m args below meth c wd nL (QO below wd args s mc ms) nc nw pc i_return := by
  intro L S h o H locs cells slots ls hf hn hL hP hS h1 h2
  unfold i_return at hf
  split at hf
  · cases hf
    exact W_end hP hS (by omega) (by omega) (fun Qc hq => W.vret A.exA A.ccA A.retA hq hS.2.2 d A.lkA)
  · cases hf
/-! calls -/
theorem run_W {o1 : Ou} {H : Heap} {locs : List Loc} {cells slots mc ms : Nat} {ls : Array Slot} {st0 rest : List Value} {a : Array Value} {Q : State → Prop}
    (hr : vx_Run p l e R s m args below meth c H locs cells slots mc ms (F0 m pc ls st0) rest (QcO wd o1 a) (XcO wd o1) (AO wd)) (hS : va_S (AO wd) s.heap H locs)
    (kn : ∀ (v : Option Value) (h1 : AH) (H1 : Heap) (locs1 : List Loc), o1 = (.inl v, h1) → PH wd h1 H1 → va_S (AO wd) s.heap H1 locs1 → W p l e R s m args below meth c H1 locs1 (cells + mc) (slots + ms) Q (F0 m (pc + 3) ls ((v.map (cv wd)).toList ++ rest)))
    (kx : ∀ (x : Nat) (h1 : AH) (H1 : Heap) (locs1 : List Loc) (q : Addr) (ce : Cell), o1 = (.inr x, h1) → PH wd h1 H1 → va_S (AO wd) s.heap H1 locs1 → H1[q]? = some ce → ce.vm = .none → s.vm.findClass (exN x) = some ce.cls → vx_W p l e R s m args below meth c H1 locs1 (cells + mc) (slots + ms) Q (F0 m pc ls rest) q) :
    W p l e R s m args below meth c H locs cells slots Q (F0 m pc ls st0) := by
  intro T hT X
  rcases hr T hT X with ⟨v, st₀, t, T', L, h0, X', hL, e1, e2, ⟨⟨v9, h', ho, hv, hp⟩, hF⟩, st⟩ | ⟨q, st₀, t, T', L, E, ce, h0, X', hL, e1, e2, ⟨⟨x, h', ho, hE, hp⟩, hF⟩, hce, hcv, hcl, st⟩
  · cases hv
    obtain ⟨k1, k2, k3⟩ := vx_keep (A1 := AO wd) h0 e1 hS (fun _ _ h => h) (fun _ h => h) hL hF
    obtain ⟨t2, a1, b1⟩ := kn v9 h' T'.heap (locs ++ L) ho (by rw [e1]; exact hp) k3 T' rfl X'
    exact ⟨t2, st t2 a1, b1⟩
  · subst hE
    obtain ⟨k1, k2, k3⟩ := vx_keep (A1 := AO wd) h0 e1 hS (fun _ _ h => h) (fun _ h => h) hL hF
    obtain ⟨t2, a1, b1⟩ := kx x h' T'.heap (locs ++ L) q ce ho (by rw [e1]; exact hp) k3 (by rw [e1]; exact hce) hcv hcl T' rfl X'
    exact ⟨t2, st.trans a1, b1⟩
theorem KK.same {l : Launch} {wd : WD} {u U : State} (h1 : u.vm = U.vm) (h2 : u.heap = U.heap) (h : KK l wd u) : KK l wd U :=
  KK.warm (by rw [← h1]; exact State.WarmedH.refl u) (by rw [h2]; exact Nat.le_refl _) (fun a _ _ => by rw [h2]) h
theorem blind_O {l : Launch} {wd : WD} {av : List Value} {h : AH} : FrameBlind (va_Pc av (fun U => PH wd h U.heap ∧ KK l wd U)) := by
  intro a U g mk hq
  obtain ⟨h1, h2, h3⟩ := hq
  exact ⟨h1, h2, KK.same (u := U) (U := U.calling g mk a) rfl rfl h3⟩
theorem Act.into (A : Act p l s m args meth c wd own cc nL ret) {H : Heap} {locs : List Loc} (hS : va_S (AO wd) s.heap H locs) {U : State} (hU : U.heap = H) (hW : s.WarmedH U.vm) : KK l wd U :=
  KK.warm hW (by rw [hU]; exact hS.1) (fun a h1 h2 => by rw [hU]; exact hS.2.1 a h1 h2) A.kkA
theorem Act.pay (A : Act p l s m args meth c wd own cc nL ret) {y : MethodName} {bytes : ByteArray} {maxL : Nat} {ry : Option FieldType} (hc : Cond.code y bytes maxL ry ∈ TS) : ∀ w ∈ (Cond.code y bytes maxL ry :: TS), ∀ (a' : Array Value) (U : State), s.WarmedH U.vm → w.before a' U = true := by
  intro w hw a' U hW
  have hw' : w ∈ TS := by
    rcases List.mem_cons.mp hw with h | h
    · rw [h]; exact hc
    · exact h
  exact word_at hW (good_of_word (List.mem_filter.mp hw').2) (A.tsA w hw')
/-- a method's own facts -/
def MF (y : MethodName) (bytes : ByteArray) (maxL : Nat) (ry : Option FieldType) (n : Nat) : Prop := Cond.code y bytes maxL ry ∈ TS ∧ Cond.initialized y.cls ∈ TS ∧ (y.cls ≠ "java/lang/invoke/MethodHandle" ∧ y.cls ≠ "java/lang/invoke/VarHandle") ∧ (parseMethodDescriptor y.desc).map (fun d => d.parameters.length) = some n
def lkM (own : String) (index : Nat) (y : MethodName) : Prop := Cond.methodLink own index y ∈ TS ∨ ∃ host, Cond.methodLinkNest own index y host ∈ lw_tbl
theorem MF.len {y : MethodName} {bytes : ByteArray} {maxL : Nat} {ry : Option FieldType} {n : Nat} (M : MF y bytes maxL ry n) : ∀ sig, parseMethodDescriptor y.desc = some sig → n = sig.parameters.length := by
  intro sig h
  have h2 := M.2.2.2
  rw [h] at h2
  exact (Option.some.inj h2).symm
def rmOK (R : Room) (d maxL : Nat) : Prop := d + 1 ≤ R.frames ∧ 8 + (maxL + 11) + 48 * d ≤ R.locals
theorem Act.fix (A : Act p l s m args meth c wd own cc nL ret) : CallFix p m c cc nL s args TS own := ⟨A.exA, A.ccA, A.mlA, A.ownA, A.tsA⟩
/-- how the caller goes on behind a call -/
def i_after (r : Option Ou) (rest : List Value) (F : Fn) (L : Lc) : Option Ou := match r with
  | some (.inl v, h1) => F L (v.toList ++ rest) h1
  | some (.inr x, h1) => some (.inr x, h1)
  | none => none
def i_callS (n : Nat) (f : List Value → AH → Option Ou) (F : Fn) : Fn := fun L S h =>
  if n ≤ S.length ∧ ((S.drop n).map fun v => v.category).sum ≤ 8 then i_after (f (S.take n).reverse h) (S.drop n) F L else none
def i_callV (ci n : Nat) (f : List Value → AH → Option Ou) (F : Fn) : Fn := fun L S h => match S.drop n with
  | .ref i :: rest => if sh i = (0, ci) ∧ i < gN h ∧ (rest.map fun v => v.category).sum ≤ 8 then i_after (f (.ref i :: (S.take n).reverse) h) rest F L else none
  | _ => none
theorem map_toList (v : Option Value) (wd : WD) (rest : List Value) : (v.map (cv wd)).toList ++ rest.map (cv wd) = (v.toList ++ rest).map (cv wd) := by cases v <;> rfl
theorem W_after {mc ms kc kw : Nat} (A : Act p l s m args meth c wd own cc nL ret) (hex : ∀ x ∈ c.exceptionTable.toList, False) (hR : R.cells = mc ∧ R.slots = ms) {r : Option Ou} {rest : List Value} {L : Lc} {o : Ou} {H : Heap} {locs : List Loc} {cells slots : Nat} {ls : Array Slot} {st0 : List Value} {a : Array Value}
    (k : Snd p l e R s m args below meth c wd nL (QO below wd args s mc ms) nc nw (pc + 3) F) (hf : i_after r rest F L = some o) (hn : L.length = nL) (hL : LR wd nL ls L) (hS : va_S (AO wd) s.heap H locs) (h1 : cells + (nc + kc) ≤ R.cells) (h2 : slots + (nw + kw) ≤ R.slots)
    (hr : ∀ o1, r = some o1 → vx_Run p l e R s m args below meth c H locs cells slots kc kw (F0 m pc ls st0) (rest.map (cv wd)) (QcO wd o1 a) (XcO wd o1) (AO wd)) :
    W p l e R s m args below meth c H locs cells slots (QO below wd args s mc ms o) (F0 m pc ls st0) := by
  cases hr0 : r with
  | none => rw [hr0] at hf; cases hf
  | some o1 =>
    rw [hr0] at hf
    refine run_W (hr o1 hr0) hS (fun v h1' H1 locs1 e1 g1 g2 => ?_) (fun x h1' H1 locs1 q ce e1 g1 g2 g3 g4 g5 => ?_)
    · subst e1
      rw [map_toList]
      exact k L _ h1' o H1 locs1 (cells + kc) (slots + kw) ls hf hn hL g1 g2 (by omega) (by omega)
    · subst e1
      have ho : (Sum.inr x, h1') = o := Option.some.inj hf
      subst ho
      exact vx_out (fun x hx => (hex x hx).elim) A.lkA g3 g4 g5 (fun t ht _ => ⟨⟨x, h1', rfl, rfl, by rw [ht]; exact g1⟩, g2.F ht⟩) g2.2.2 (by omega) (by omega)
theorem sn_callS {mc ms kc kw d maxL index n : Nat} {y : MethodName} {bytes : ByteArray} {ry : Option FieldType} {f : List Value → AH → Option Ou} (A : Act p l s m args meth c wd own cc nL ret) (hex : ∀ x ∈ c.exceptionTable.toList, False) (hR : R.cells = mc ∧ R.slots = ms)
    (M : MF y bytes maxL ry n) (hst : Cond.static y ∈ TS) (hl : lkM own index y) (C : CT l wd y bytes maxL ry d kc kw f) (hrm : rmOK R d maxL) (hd : decode cc pc = .ok (.invokestatic index, 3))
    (k : Snd p l e R s m args below meth c wd nL (QO below wd args s mc ms) nc nw (pc + 3) F) : Snd p l e R s m args below meth c wd nL (QO below wd args s mc ms) (nc + kc) (nw + kw) pc (i_callS n f F) := by
  intro L S h o H locs cells slots ls hf hn hL hP hS h1 h2
  unfold i_callS at hf
  split at hf
  · next hc =>
    refine W_after (a := ((S.take n).reverse.map (cv wd)).toArray) A hex hR k hf hn hL hS h1 h2 (fun o1 ho1 => ?_)
    have hM := C _ h o1 ho1
    have hp : PreS s H (va_Pc ((S.take n).reverse.map (cv wd)) (fun U => PH wd h U.heap ∧ KK l wd U)) ((S.take n).reverse.map (cv wd)) := ⟨blind_O, fun U hU hW => ⟨rfl, by rw [hU]; exact hP, A.into hS hU hW⟩⟩
    have hst2 : (S.map (cv wd)) = ((S.take n).reverse.map (cv wd)).reverse ++ (S.drop n).map (cv wd) := by
      rw [← List.map_reverse, List.reverse_reverse, ← List.map_append, List.take_append_drop]
    have hcat : 2 * (F0 m pc ls (S.map (cv wd))).monitorRoom + (((S.drop n).map (cv wd)).map fun v => v.category).sum ≤ 8 := lv_room (by rw [cv_sum]; exact hc.2)
    have hlen : ((S.take n).reverse.map (cv wd)).length = n := by simp; omega
    rcases hl with hl | ⟨host, hl⟩
    · exact vx_runS A.fix hM ⟨⟨rfl, rfl, hrm.1, hrm.2, A.pay M.1, List.mem_cons_self, A.tsA _ M.1, A.tsA _ M.2.1, M.2.2.1, M.len, A.tsA _ hl⟩, A.tsA _ hst⟩ hp rfl hlen hL.1 hst2 hcat hd ⟨by omega, by omega⟩
    · exact vx_runSN A.fix hM ⟨⟨⟨rfl, rfl, hrm.1, hrm.2, A.pay M.1, List.mem_cons_self⟩, A.tsA _ M.1, A.tsA _ M.2.1, M.2.2.1, M.len, A.nest hl rfl rfl⟩, A.tsA _ hst, trivial⟩ hp rfl hlen hL.1 hst2 hcat hd ⟨by omega, by omega⟩
  · cases hf
theorem sn_callV {mc ms kc kw d maxL index n ci : Nat} {y : MethodName} {bytes : ByteArray} {ry : Option FieldType} {f : List Value → AH → Option Ou} {T : u_T} {N : Nat} (A : Act p l s m args meth c wd own cc nL ret) (hex : ∀ x ∈ c.exceptionTable.toList, False) (hR : R.cells = mc ∧ R.slots = ms)
    (hci : vwCl[ci]? = some (y.cls, T, N)) (M : MF y bytes maxL ry n) (hin : Cond.instanceMethod y ∈ TS) (hse : Cond.selects y.cls y y ∈ TS) (hl : lkM own index y) (C : CT l wd y bytes maxL ry d kc kw f) (hrm : rmOK R d maxL) (hd : decode cc pc = .ok (.invokevirtual index, 3))
    (k : Snd p l e R s m args below meth c wd nL (QO below wd args s mc ms) nc nw (pc + 3) F) : Snd p l e R s m args below meth c wd nL (QO below wd args s mc ms) (nc + kc) (nw + kw) pc (i_callV ci n f F) := by
  intro L S h o H locs cells slots ls hf hn hL hP hS h1 h2
  unfold i_callV at hf
  split at hf
  · next i rest hdr =>
    split at hf
    · next hc =>
      have hnl : n ≤ S.length := by
        have := congrArg List.length hdr
        simp at this
        omega
      refine W_after (a := (Value.ref (wd.2.1 i) :: (S.take n).reverse.map (cv wd)).toArray) A hex hR k hf hn hL hS h1 h2 (fun o1 ho1 => ?_)
      have hM := C _ h o1 ho1
      have he := wsO_get wd h hc.2.1
      rw [ent_o hc.1] at he
      have hrc : ∃ cell : Cell, H[wd.2.1 i]? = some cell ∧ cell.vm.isStatics = false ∧ s.vm.findClass y.cls = some cell.cls := by
        have h9 := va_recv A.kkA.kK hP.1 hci he
        exact h9
      have hp : PreV s H y.cls (wd.2.1 i) (va_Pc ((Value.ref i :: (S.take n).reverse).map (cv wd)) (fun U => PH wd h U.heap ∧ KK l wd U)) ((S.take n).reverse.map (cv wd)) := ⟨blind_O, hrc, fun U hU hW => ⟨rfl, by rw [hU]; exact hP, A.into hS hU hW⟩⟩
      have hst2 : (S.map (cv wd)) = ((S.take n).reverse.map (cv wd)).reverse ++ .ref (wd.2.1 i) :: rest.map (cv wd) := by
        rw [← List.map_reverse, List.reverse_reverse, show Value.ref (wd.2.1 i) :: rest.map (cv wd) = (Value.ref i :: rest).map (cv wd) from rfl, ← hdr, ← List.map_append, List.take_append_drop]
      have hcat : 2 * (F0 m pc ls (S.map (cv wd))).monitorRoom + ((rest.map (cv wd)).map fun v => v.category).sum ≤ 8 := lv_room (by rw [cv_sum]; exact hc.2.2)
      have hlen : ((S.take n).reverse.map (cv wd)).length = n := by simp; omega
      rcases hl with hl | ⟨host, hl⟩
      · exact vx_runV A.fix hM ⟨⟨rfl, rfl, hrm.1, hrm.2, A.pay M.1, List.mem_cons_self, A.tsA _ M.1, A.tsA _ M.2.1, M.2.2.1, M.len, A.tsA _ hl⟩, A.tsA _ hin, A.tsA _ hse⟩ hp rfl hlen hL.1 hst2 hcat hd ⟨by omega, by omega⟩
      · exact vx_runVN A.fix hM ⟨⟨⟨rfl, rfl, hrm.1, hrm.2, A.pay M.1, List.mem_cons_self⟩, A.tsA _ M.1, A.tsA _ M.2.1, M.2.2.1, M.len, A.nest hl rfl rfl⟩, A.tsA _ hin, A.tsA _ hse⟩ hp rfl hlen hL.1 hst2 hcat hd ⟨by omega, by omega⟩
    · cases hf
  · cases hf
end CALL
