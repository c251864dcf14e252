section NEW
variable {p : Program} {l : Launch} {e : Env} {R : Room} {s : State} {m : MethodId} {args : Array Value} {below : List Frame} {meth : Method} {c : Code} {wd : WD} {own : String} {cc : ByteArray} {nL : Nat} {ret : Option FieldType} {QF : Ou → State → Prop} {nc nw9 pc : Nat} {F G : Fn}
/-! cells that are made: each gets the next number -/
theorem ent_nw {h : AH} {k : Nat} (hk : k < gN h) : ent wd (nw h) k = ent wd h k := by
  have hk' : k ≠ gN h := Nat.ne_of_lt hk
  exact ent_cong (by funext j; simp [gI, nw, hk']) (by funext j; simp [gL, nw, hk']) (by funext j; simp [gR, nw, hk'])
theorem gI_nw (h : AH) : gI (nw h) (gN h) = fun _ => 0 := by funext j; simp [gI, nw]
theorem gL_nw (h : AH) : gL (nw h) (gN h) = fun _ => 0 := by funext j; simp [gL, nw]
theorem gR_nw (h : AH) : gR (nw h) (gN h) = fun _ => none := by funext j; simp [gR, nw]
theorem PH.push (A : Act p l s m args meth c wd own cc nL ret) {h : AH} {H H1 : Heap} {e1 : va_E} (hP : PH wd h H) (hN : gN h < NT) (hX : gX h = 0) (he : va_at wd.2.2.1 vwCl (H.size, e1) H1) (hz : H1.size = H.size + 1) (oq : ∀ q : Nat, q < H.size → H1[q]? = H[q]?) (hv : ent wd (nw h) (gN h) = e1) : PH wd (nw h) H1 ∧ H.size = wd.2.1 (gN h) := by
  have hs : H.size = wd.2.1 (gN h) := by rw [A.kkA.adK _ hN]; exact hP.2.2 hX
  have hk : ∀ (k : Nat) (x : Nat × va_E), (wsO wd h)[k]? = some x → H1[x.1]? = H[x.1]? := fun k x hx => oq x.1 ((hP.1 k x hx).lt)
  have h1 : va_P wd.2.2.1 vwCl (wsO wd h ++ [(H.size, e1)]) H1 := (hP.1.kept hk).app (fun k x hx => by
    have hz : k < 1 := (List.getElem?_eq_some_iff.mp hx).1
    rw [show k = 0 by omega] at hx
    cases hx
    exact he)
  rw [wsO_push (h' := nw h) rfl hs hv (fun k hk => ent_nw hk)] at h1
  refine ⟨⟨h1, hN, fun _ => ?_⟩, hs⟩
  show H1.size = wd.1 + (gN h + 1)
  rw [hz, hP.2.2 hX]
  omega
theorem va_S.push {H0 H H1 : Heap} {locs : List Loc} (hS : va_S (AO wd) H0 H locs) (hz : H1.size = H.size + 1) (oq : ∀ q : Nat, q < H.size → H1[q]? = H[q]?) : va_S (AO wd) H0 H1 locs :=
  ⟨Nat.le_trans hS.1 (by omega), fun x h1 h2 => (oq x (Nat.lt_of_lt_of_le h1 hS.1)).trans (hS.2.1 x h1 h2), hS.2.2⟩
def i_new (ci : Nat) (F : Fn) : Fn := fun L S h => if gX h = 0 ∧ gN h < NT ∧ sh (gN h) = (0, ci) then F L (.ref (gN h) :: S) (nw h) else none
theorem fv_zero {h : AH} {ci k : Nat} (ty : FieldType) (hk : (fk ci k = 0 ∧ (ty = .int ∨ ty = .boolean)) ∨ (fk ci k = 1 ∧ ty = .long) ∨ (fk ci k = 2 ∧ isRT ty)) : fv wd (nw h) ci (gN h) k = defaultValue ty := by
  unfold fv
  rcases hk with ⟨h1, rfl | rfl⟩ | ⟨h1, rfl⟩ | ⟨h1, ⟨n, rfl⟩ | ⟨t, rfl⟩⟩ <;> rw [h1] <;> simp [gI_nw, gL_nw, gR_nw, va_re, va_rf, defaultValue]
theorem sn_new (A : Act p l s m args meth c wd own cc nL ret) {index ci N : Nat} {C : String} {T : u_T} {ty : Nat → FieldType} (K : ClF ci C T N ty) (hty : ∀ k, k < N → (fk ci k = 0 ∧ (ty k = .int ∨ ty k = .boolean)) ∨ (fk ci k = 1 ∧ ty k = .long) ∨ (fk ci k = 2 ∧ isRT (ty k))) (d : decode cc pc = .ok (.new index, 3)) (hcl : Cond.classLink own index C ∈ TS) (hins : Cond.instantiable C N ∈ TS) (hini : Cond.initialized C ∈ TS)
    (k : Snd p l e R s m args below meth c wd nL QF nc nw9 (pc + 3) F) : Snd p l e R s m args below meth c wd nL QF (nc + 1) (nw9 + N) pc (i_new ci F) := by
  intro L S h o H locs cells slots ls hf hn hL hP hS h1 h2
  unfold i_new at hf
  split at hf
  · next hc =>
    obtain ⟨c1, c2, c3, c4, c5, c6⟩ := K
    have hKn := A.kkA.kK.1 ci _ c1
    refine W.newcK A.exA A.ccA A.ownA (A.tsA _ hcl) (A.tsA _ hins) (A.tsA _ hini) rfl d (by omega) (by omega) hKn.2.1 rfl fun H1 kC hkC e1 z1 o1 => ?_
    have hb := (u_born ty A.tsA c3 hKn hkC e1 c4).to (V' := vp_V ((List.range (nf ci)).map (fv wd (nw h) ci (gN h)))) (fun j hj => by
      rw [show vp_V ((List.range (nf ci)).map (fv wd (nw h) ci (gN h))) j = fv wd (nw h) ci (gN h) j by simp [vp_V, ← c2, hj]]
      exact (fv_zero (ty j) (hty j hj)).symm)
    obtain ⟨hP1, hs⟩ := PH.push A (e1 := .inr (ci, (List.range (nf ci)).map (fv wd (nw h) ci (gN h)))) hP hc.2.1 hc.1 ⟨_, c1, hb⟩ z1 o1 (ent_o hc.2.2)
    rw [hs]
    exact k L _ _ o H1 locs (cells + 1) (slots + N) ls hf hn hL hP1 (va_S.push hS z1 o1) (by omega) (by omega)
  · cases hf
def i_newarr (kd N : Nat) (F : Fn) : Fn := fun L S h => match S with
  | .int n :: S => if gX h = 0 ∧ gN h < NT ∧ sh (gN h) = (kd, N) ∧ ¬ n < 0 ∧ n.toNatClampNeg = N ∧ N ≤ 4096 then F L (.ref (gN h) :: S) (nw h) else none
  | _ => none
theorem sn_newI (A : Act p l s m args meth c wd own cc nL ret) {N : Nat} (d : decode cc pc = .ok (.newarray .int, 2)) (hw : Cond.arrayClass .int ∈ TS)
    (k : Snd p l e R s m args below meth c wd nL QF nc nw9 (pc + 2) F) : Snd p l e R s m args below meth c wd nL QF (nc + 1) (nw9 + N) pc (i_newarr 1 N F) := by
  intro L S h o H locs cells slots ls hf hn hL hP hS h1 h2
  unfold i_newarr at hf
  split at hf
  · split at hf
    · next n S1 hc =>
      obtain ⟨q1, q2, q3, q4, q5, q6⟩ := hc
      refine va_newaK (atype := .int) A.exA A.ccA (A.tsA _ hw) rfl d rfl q4 q5 (by show _ * 4 ≤ _; omega) (by omega) (by omega) rfl fun H1 cA e1 z1 o1 hAr hNm => ?_
      have hcA : cA = wd.2.2.2 0 := Option.some.inj (hNm.symm.trans (A.kkA.kK.2 0 _ rfl).2)
      subst hcA
      obtain ⟨hP1, hs⟩ := PH.push A (e1 := .inl (wd.2.2.2 0, N, .inl (gI (nw h) (gN h)))) hP q2 q1 (by
        show H1[H.size]? = some (vp_cell _ _)
        rw [vp_cell_i, gI_nw]
        exact e1) z1 o1 (ent_i q3)
      rw [hs]
      exact k L _ _ o H1 locs (cells + 1) (slots + N) ls hf hn hL hP1 (va_S.push hS z1 o1) (by omega) (by omega)
    · cases hf
  · cases hf
theorem sn_newB (A : Act p l s m args meth c wd own cc nL ret) {N : Nat} (d : decode cc pc = .ok (.newarray .byte, 2)) (hw : Cond.arrayClass .byte ∈ TS)
    (k : Snd p l e R s m args below meth c wd nL QF nc nw9 (pc + 2) F) : Snd p l e R s m args below meth c wd nL QF (nc + 1) (nw9 + N) pc (i_newarr 2 N F) := by
  intro L S h o H locs cells slots ls hf hn hL hP hS h1 h2
  unfold i_newarr at hf
  split at hf
  · split at hf
    · next n S1 hc =>
      obtain ⟨q1, q2, q3, q4, q5, q6⟩ := hc
      refine va_newaK (atype := .byte) A.exA A.ccA (A.tsA _ hw) rfl d rfl q4 q5 (by show _ * 1 ≤ _; omega) (by omega) (by omega) rfl fun H1 cA e1 z1 o1 hAr hNm => ?_
      have hcA : cA = wd.2.2.2 1 := Option.some.inj (hNm.symm.trans (A.kkA.kK.2 1 _ rfl).2)
      subst hcA
      obtain ⟨hP1, hs⟩ := PH.push A (e1 := .inl (wd.2.2.2 1, N, .inl (gI (nw h) (gN h)))) hP q2 q1 (by
        show H1[H.size]? = some (vp_cell _ _)
        rw [vp_cell_i, gI_nw]
        exact e1) z1 o1 (ent_b q3)
      rw [hs]
      exact k L _ _ o H1 locs (cells + 1) (slots + N) ls hf hn hL hP1 (va_S.push hS z1 o1) (by omega) (by omega)
    · cases hf
  · cases hf
theorem sn_newL (A : Act p l s m args meth c wd own cc nL ret) {N : Nat} (d : decode cc pc = .ok (.newarray .long, 2)) (hw : Cond.arrayClass .long ∈ TS)
    (k : Snd p l e R s m args below meth c wd nL QF nc nw9 (pc + 2) F) : Snd p l e R s m args below meth c wd nL QF (nc + 1) (nw9 + N) pc (i_newarr 3 N F) := by
  intro L S h o H locs cells slots ls hf hn hL hP hS h1 h2
  unfold i_newarr at hf
  split at hf
  · split at hf
    · next n S1 hc =>
      obtain ⟨q1, q2, q3, q4, q5, q6⟩ := hc
      refine va_newaK (atype := .long) A.exA A.ccA (A.tsA _ hw) rfl d rfl q4 q5 (by show _ * 8 ≤ _; omega) (by omega) (by omega) rfl fun H1 cA e1 z1 o1 hAr hNm => ?_
      have hcA : cA = wd.2.2.2 2 := Option.some.inj (hNm.symm.trans (A.kkA.kK.2 2 _ rfl).2)
      subst hcA
      obtain ⟨hP1, hs⟩ := PH.push A (e1 := .inl (wd.2.2.2 2, N, .inr (.inl (gL (nw h) (gN h))))) hP q2 q1 (by
        show H1[H.size]? = some (vp_cell _ _)
        rw [vp_cell_l, gL_nw]
        exact e1) z1 o1 (ent_l q3)
      rw [hs]
      exact k L _ _ o H1 locs (cells + 1) (slots + N) ls hf hn hL hP1 (va_S.push hS z1 o1) (by omega) (by omega)
    · cases hf
  · cases hf
theorem sn_newQ (A : Act p l s m args meth c wd own cc nL ret) {N index : Nat} (d : decode cc pc = .ok (.anewarray index, 3)) (hcl : Cond.classLink own index RX9 ∈ TS)
    (k : Snd p l e R s m args below meth c wd nL QF nc nw9 (pc + 3) F) : Snd p l e R s m args below meth c wd nL QF (nc + 1) (nw9 + N) pc (i_newarr 4 N F) := by
  intro L S h o H locs cells slots ls hf hn hL hP hS h1 h2
  unfold i_newarr at hf
  split at hf
  · split at hf
    · next n S1 hc =>
      obtain ⟨q1, q2, q3, q4, q5, q6⟩ := hc
      subst q5
      refine W.anew A.exA A.ccA A.ownA (A.tsA _ hcl) (va_AO.use A.kkA.aoK) rfl d rfl q4 (by omega) (by omega) (by omega) fun cA kA comp f1 f2 f3 f4 => ?_
      obtain ⟨kA', comp', r1, r2, r3, r4⟩ := (A.kkA.kK.2 3 _ rfl).2
      have hcA : cA = wd.2.2.2 3 := Option.some.inj (f1.symm.trans r4)
      subst hcA
      generalize hH1 : H.push ({ cls := wd.2.2.2 3, slots := Array.replicate n.toNatClampNeg .null, vm := .none } : Cell) = H1
      have z1 : H1.size = H.size + 1 := by rw [← hH1, Array.size_push]
      have e1 : H1[H.size]? = some (arrV (wd.2.2.2 3) n.toNatClampNeg (fun _ => .null)) := by rw [← hH1, Array.getElem?_push_size, ← arrV_new]
      have o1 : ∀ q : Nat, q < H.size → H1[q]? = H[q]? := fun q hq => by rw [← hH1, Array.getElem?_push, if_neg (Nat.ne_of_lt hq)]
      obtain ⟨hP1, hs⟩ := PH.push A (e1 := .inl (wd.2.2.2 3, n.toNatClampNeg, .inr (.inr (.inr (.inr (fun j => (gR (nw h) (gN h) j).map wd.2.1)))))) hP q2 q1 (by
        show H1[H.size]? = some (vp_cell _ _)
        rw [vp_cell_q, gR_nw]
        exact e1) z1 o1 (ent_q q3)
      rw [hs]
      exact k L _ _ o H1 locs (cells + 1) (slots + n.toNatClampNeg) ls hf hn hL hP1 (va_S.push hS z1 o1) (by omega) (by omega)
    · cases hf
  · cases hf
/-! constructors -/
def i_objInit (F : Fn) : Fn := fun L S h => match S with
  | .ref i :: S => if (S.map fun v => v.category).sum ≤ 8 then F L S h else none
  | _ => none
theorem sn_objInit (A : Act p l s m args meth c wd own cc nL ret) (hR : rm1 R) {idx : Nat} (hl : Cond.methodLink own idx Lib.objectInit ∈ TS) (hi : Cond.instanceMethod Lib.objectInit ∈ TS) (hc : Cond.code Lib.objectInit ⟨#[0xb1]⟩ 1 none ∈ TS) (d : decode cc pc = .ok (.invokespecial idx, 3))
    (k : Snd p l e R s m args below meth c wd nL QF nc nw9 (pc + 3) F) : Snd p l e R s m args below meth c wd nL QF nc nw9 pc (i_objInit F) := by
  intro L S h o H locs cells slots ls hf hn hL hP hS h1 h2
  unfold i_objInit at hf
  split at hf
  · split at hf
    · next i S1 hcat =>
      refine W.objInit A.exA A.ccA A.ownA (A.tsA _ hl) (A.tsA _ hi) (A.tsA _ hc) rfl (by rw [A.mlA]; exact hL.1) rfl d hR.1 (by show 2 * 0 + _ + 12 ≤ _; rw [cv_sum]; have := hR.2; omega) ?_
      exact W.eq (g2 := F0 m (pc + 3) ls (S1.map (cv wd))) rfl (k L _ h o H locs cells slots ls hf hn hL hP hS h1 h2)
    · cases hf
  · cases hf
def i_callI (n : Nat) (f : List Value → AH → Option Ou) (F : Fn) : Fn := fun L S h => match S.drop n with
  | .ref i :: rest => if (rest.map fun v => v.category).sum ≤ 8 then i_after (f (.ref i :: (S.take n).reverse) h) rest F L else none
  | _ => none
theorem sn_callI {mc ms kc kw d maxL index n : Nat} {y : MethodName} {bytes : ByteArray} {f : List Value → AH → Option Ou} (A : Act p l s m args meth c wd own cc nL ret) (hex : ∀ x ∈ c.exceptionTable.toList, False) (hR : R.cells = mc ∧ R.slots = ms)
    (hy : y.name = "<init>") (M : MF y bytes maxL none n) (hin : Cond.instanceMethod y ∈ TS) (hl : lkM own index y) (C : CT l wd y bytes maxL none d kc kw f) (hrm : rmOK R d maxL) (hd : decode cc pc = .ok (.invokespecial index, 3))
    (k : Snd p l e R s m args below meth c wd nL (QO below wd args s mc ms) nc nw9 (pc + 3) F) : Snd p l e R s m args below meth c wd nL (QO below wd args s mc ms) (nc + kc) (nw9 + kw) pc (i_callI n f F) := by
  intro L S h o H locs cells slots ls hf hn hL hP hS h1 h2
  unfold i_callI at hf
  split at hf
  · next i rest hdr =>
    split at hf
    · next hc =>
      have hnl : n ≤ S.length := by
        have := congrArg List.length hdr
        simp at this
        omega
      refine W_after (a := (Value.ref (wd.2.1 i) :: (S.take n).reverse.map (cv wd)).toArray) A hex hR k hf hn hL hS h1 h2 (fun o1 ho1 => ?_)
      have hM := C _ h o1 ho1
      have hp : PreS s H (va_Pc ((Value.ref i :: (S.take n).reverse).map (cv wd)) (fun U => PH wd h U.heap ∧ KK l wd U)) (.ref (wd.2.1 i) :: (S.take n).reverse.map (cv wd)) := ⟨blind_O, fun U hU hW => ⟨rfl, by rw [hU]; exact hP, A.into hS hU hW⟩⟩
      have hst2 : (S.map (cv wd)) = ((S.take n).reverse.map (cv wd)).reverse ++ .ref (wd.2.1 i) :: rest.map (cv wd) := by
        rw [← List.map_reverse, List.reverse_reverse, show Value.ref (wd.2.1 i) :: rest.map (cv wd) = (Value.ref i :: rest).map (cv wd) from rfl, ← hdr, ← List.map_append, List.take_append_drop]
      have hcat : 2 * (F0 m pc ls (S.map (cv wd))).monitorRoom + ((rest.map (cv wd)).map fun v => v.category).sum ≤ 8 := lv_room (by rw [cv_sum]; exact hc)
      have hlen : ((S.take n).reverse.map (cv wd)).length = n := by simp; omega
      rcases hl with hl | ⟨host, hl⟩
      · exact vx_runI A.fix hM ⟨⟨rfl, rfl, hrm.1, hrm.2, A.pay M.1, List.mem_cons_self, A.tsA _ M.1, A.tsA _ M.2.1, M.2.2.1, M.len, A.tsA _ hl⟩, hy, A.tsA _ hin⟩ hp rfl hlen hL.1 hst2 hcat hd ⟨by omega, by omega⟩
      · exact vx_runIN A.fix hM ⟨⟨⟨rfl, rfl, hrm.1, hrm.2, A.pay M.1, List.mem_cons_self⟩, A.tsA _ M.1, A.tsA _ M.2.1, M.2.2.1, M.len, A.nest hl rfl rfl⟩, hy, A.tsA _ hin⟩ hp rfl hlen hL.1 hst2 hcat hd ⟨by omega, by omega⟩
    · cases hf
  · cases hf
end NEW
def okT (kd : Nat) (t : FieldType) : Bool := match t with
  | .int => kd == 0
  | .boolean => kd == 0
  | .long => kd == 1
  | .object _ => kd == 2
  | .array _ => kd == 2
  | _ => false
theorem okT_spec {ci k : Nat} {t : FieldType} (h : okT (fk ci k) t = true) : (fk ci k = 0 ∧ (t = .int ∨ t = .boolean)) ∨ (fk ci k = 1 ∧ t = .long) ∨ (fk ci k = 2 ∧ isRT t) := by
  cases t <;> simp only [okT, beq_iff_eq] at h <;> first | exact Or.inl ⟨h, Or.inl rfl⟩ | exact Or.inl ⟨h, Or.inr rfl⟩ | exact Or.inr (Or.inl ⟨h, rfl⟩) | exact Or.inr (Or.inr ⟨h, Or.inl ⟨_, rfl⟩⟩) | exact Or.inr (Or.inr ⟨h, Or.inr ⟨_, rfl⟩⟩) | cases h
