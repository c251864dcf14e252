/-! methods as functions: what is common -/
def fuelN : Nat := 4096
def runF (nL : Nat) (F : Fn) : List Value → AH → Option Ou := fun av h => if (entA av).length ≤ nL then F (entL nL av) [] h else none
theorem runF_ok {nL : Nat} {F : Fn} : ∀ av h o, runF nL F av h = some o → (entA av).length ≤ nL ∧ F (entL nL av) [] h = some o := by
  intro av h o hf
  unfold runF at hf
  split at hf
  · exact ⟨by assumption, hf⟩
  · cases hf
theorem rm1_of {d mc ms : Nat} (h : 1 ≤ d) : rm1 (rmO d mc ms) := ⟨h, by show 40 ≤ 48 * d; omega⟩
theorem rmOK_of {D mc ms d maxL : Nat} (h1 : d < D) (h2 : maxL ≤ 29) : rmOK (rmO D mc ms) d maxL := ⟨h1, by show 8 + (maxL + 11) + 48 * d ≤ 48 * D; omega⟩
/-- a place that is never come to -/
def i_fail : Fn := fun _ _ _ => none
theorem sn_fail {p : Program} {l : Launch} {e : Env} {R : Room} {s : State} {m : MethodId} {args : Array Value} {below : List Frame} {meth : Method} {c : Code} {wd : WD} {nL : Nat} {QF : Ou → State → Prop} {nc nw pc : Nat} : Snd p l e R s m args below meth c wd nL QF nc nw pc i_fail := fun _ _ _ _ _ _ _ _ _ hf => nomatch hf
section TXT
variable {p : Program} {l : Launch} {e : Env} {R : Room} {s : State} {m : MethodId} {args : Array Value} {below : List Frame} {meth : Method} {c : Code} {wd : WD} {own : String} {cc : ByteArray} {nL : Nat} {ret : Option FieldType} {nc nw pc : Nat} {F G : Fn}
/-- a call on a text -/
def i_callT (n : Nat) (f : List Value → AH → Option Ou) (F : Fn) : Fn := fun L S h => match S.drop n with
  | .ref i :: rest => if inB 2000 txN i = true ∧ (rest.map fun v => v.category).sum ≤ 8 then i_after (f (.ref i :: (S.take n).reverse) h) rest F L else none
  | _ => none
theorem sn_callT {mc ms kc kw d maxL index n : Nat} {y : MethodName} {bytes : ByteArray} {ry : Option FieldType} {f : List Value → AH → Option Ou} (A : Act p l s m args meth c wd own cc nL ret) (hex : ∀ x ∈ c.exceptionTable.toList, False) (hR : R.cells = mc ∧ R.slots = ms)
    (hci : y.cls = "java/lang/String") (M : MF y bytes maxL ry n) (hin : Cond.instanceMethod y ∈ TS) (hse : Cond.selects y.cls y y ∈ TS) (hl : lkM own index y) (C : CT l wd y bytes maxL ry d kc kw f) (hrm : rmOK R d maxL) (hd : decode cc pc = .ok (.invokevirtual index, 3))
    (k : Snd p l e R s m args below meth c wd nL (QO below wd args s mc ms) nc nw (pc + 3) F) : Snd p l e R s m args below meth c wd nL (QO below wd args s mc ms) (nc + kc) (nw + kw) pc (i_callT n f F) := by
  intro L S h o H locs cells slots ls hf hn hL hP hS h1 h2
  unfold i_callT at hf
  split at hf
  · next i rest hdr =>
    split at hf
    · next hc =>
      have hnl : n ≤ S.length := by
        have := congrArg List.length hdr
        simp at this
        omega
      refine W_after (a := (Value.ref (wd.2.1 i) :: (S.take n).reverse.map (cv wd)).toArray) A hex hR k hf hn hL hS h1 h2 (fun o1 ho1 => ?_)
      have hM := C _ h o1 ho1
      have hrc : ∃ cell : Cell, H[wd.2.1 i]? = some cell ∧ cell.vm.isStatics = false ∧ s.vm.findClass y.cls = some cell.cls := by
        obtain ⟨j, hj, rfl⟩ := inB_off hc.1
        rw [hci]
        exact vk_recv (i := j) A.kkA.sfK.2.2.2.2.1 hj hS
      have hp : PreV s H y.cls (wd.2.1 i) (va_Pc ((Value.ref i :: (S.take n).reverse).map (cv wd)) (fun U => PH wd h U.heap ∧ KK l wd U)) ((S.take n).reverse.map (cv wd)) := ⟨blind_O, hrc, fun U hU hW => ⟨rfl, by rw [hU]; exact hP, A.into hS hU hW⟩⟩
      have hst2 : (S.map (cv wd)) = ((S.take n).reverse.map (cv wd)).reverse ++ .ref (wd.2.1 i) :: rest.map (cv wd) := by
        rw [← List.map_reverse, List.reverse_reverse, show Value.ref (wd.2.1 i) :: rest.map (cv wd) = (Value.ref i :: rest).map (cv wd) from rfl, ← hdr, ← List.map_append, List.take_append_drop]
      have hcat : 2 * (F0 m pc ls (S.map (cv wd))).monitorRoom + ((rest.map (cv wd)).map fun v => v.category).sum ≤ 8 := lv_room (by rw [cv_sum]; exact hc.2)
      have hlen : ((S.take n).reverse.map (cv wd)).length = n := by simp; omega
      rcases hl with hl | ⟨host, hl⟩
      · exact vx_runV A.fix hM ⟨⟨rfl, rfl, hrm.1, hrm.2, A.pay M.1, List.mem_cons_self, A.tsA _ M.1, A.tsA _ M.2.1, M.2.2.1, M.len, A.tsA _ hl⟩, A.tsA _ hin, A.tsA _ hse⟩ hp rfl hlen hL.1 hst2 hcat hd ⟨by omega, by omega⟩
      · exact vx_runVN A.fix hM ⟨⟨⟨rfl, rfl, hrm.1, hrm.2, A.pay M.1, List.mem_cons_self⟩, A.tsA _ M.1, A.tsA _ M.2.1, M.2.2.1, M.len, A.nest hl rfl rfl⟩, A.tsA _ hin, A.tsA _ hse⟩ hp rfl hlen hL.1 hst2 hcat hd ⟨by omega, by omega⟩
    · cases hf
  · cases hf
end TXT

theorem inl_X0 : ∀ w ∈ u_ws RX0 TX0 17, w ∈ TS := by
  have h : (u_ws RX0 TX0 17).all (fun w => decide (w ∈ lw_tbl) && goodWord w) = true := by decide +kernel
  intro w hw
  have h1 := List.all_eq_true.mp h w hw
  simp only [Bool.and_eq_true, decide_eq_true_eq] at h1
  exact List.mem_filter.mpr h1
theorem clF_0 : ClF 0 RX0 TX0 17 tyX0 := ⟨rfl, rfl, inl_X0, tyX0_ok, nmX0, by decide +kernel⟩
theorem inl_X1 : ∀ w ∈ u_ws RX1 TX1 11, w ∈ TS := by
  have h : (u_ws RX1 TX1 11).all (fun w => decide (w ∈ lw_tbl) && goodWord w) = true := by decide +kernel
  intro w hw
  have h1 := List.all_eq_true.mp h w hw
  simp only [Bool.and_eq_true, decide_eq_true_eq] at h1
  exact List.mem_filter.mpr h1
theorem clF_1 : ClF 1 RX1 TX1 11 tyX1 := ⟨rfl, rfl, inl_X1, tyX1_ok, nmX1, by decide +kernel⟩
theorem inl_X2 : ∀ w ∈ u_ws RX2 TX2 5, w ∈ TS := by
  have h : (u_ws RX2 TX2 5).all (fun w => decide (w ∈ lw_tbl) && goodWord w) = true := by decide +kernel
  intro w hw
  have h1 := List.all_eq_true.mp h w hw
  simp only [Bool.and_eq_true, decide_eq_true_eq] at h1
  exact List.mem_filter.mpr h1
theorem clF_2 : ClF 2 RX2 TX2 5 tyX2 := ⟨rfl, rfl, inl_X2, tyX2_ok, nmX2, by decide +kernel⟩
theorem inl_X3 : ∀ w ∈ u_ws RX3 TX3 10, w ∈ TS := by
  have h : (u_ws RX3 TX3 10).all (fun w => decide (w ∈ lw_tbl) && goodWord w) = true := by decide +kernel
  intro w hw
  have h1 := List.all_eq_true.mp h w hw
  simp only [Bool.and_eq_true, decide_eq_true_eq] at h1
  exact List.mem_filter.mpr h1
theorem clF_3 : ClF 3 RX3 TX3 10 tyX3 := ⟨rfl, rfl, inl_X3, tyX3_ok, nmX3, by decide +kernel⟩
theorem inl_X4 : ∀ w ∈ u_ws RX4 TX4 2, w ∈ TS := by
  have h : (u_ws RX4 TX4 2).all (fun w => decide (w ∈ lw_tbl) && goodWord w) = true := by decide +kernel
  intro w hw
  have h1 := List.all_eq_true.mp h w hw
  simp only [Bool.and_eq_true, decide_eq_true_eq] at h1
  exact List.mem_filter.mpr h1
theorem clF_4 : ClF 4 RX4 TX4 2 tyX4 := ⟨rfl, rfl, inl_X4, tyX4_ok, nmX4, by decide +kernel⟩
theorem inl_X5 : ∀ w ∈ u_ws RX5 TX5 10, w ∈ TS := by
  have h : (u_ws RX5 TX5 10).all (fun w => decide (w ∈ lw_tbl) && goodWord w) = true := by decide +kernel
  intro w hw
  have h1 := List.all_eq_true.mp h w hw
  simp only [Bool.and_eq_true, decide_eq_true_eq] at h1
  exact List.mem_filter.mpr h1
theorem clF_5 : ClF 5 RX5 TX5 10 tyX5 := ⟨rfl, rfl, inl_X5, tyX5_ok, nmX5, by decide +kernel⟩
theorem inl_X6 : ∀ w ∈ u_ws RX6 TX6 4, w ∈ TS := by
  have h : (u_ws RX6 TX6 4).all (fun w => decide (w ∈ lw_tbl) && goodWord w) = true := by decide +kernel
  intro w hw
  have h1 := List.all_eq_true.mp h w hw
  simp only [Bool.and_eq_true, decide_eq_true_eq] at h1
  exact List.mem_filter.mpr h1
theorem clF_6 : ClF 6 RX6 TX6 4 tyX6 := ⟨rfl, rfl, inl_X6, tyX6_ok, nmX6, by decide +kernel⟩
theorem inl_X7 : ∀ w ∈ u_ws RX7 TX7 4, w ∈ TS := by
  have h : (u_ws RX7 TX7 4).all (fun w => decide (w ∈ lw_tbl) && goodWord w) = true := by decide +kernel
  intro w hw
  have h1 := List.all_eq_true.mp h w hw
  simp only [Bool.and_eq_true, decide_eq_true_eq] at h1
  exact List.mem_filter.mpr h1
theorem clF_7 : ClF 7 RX7 TX7 4 tyX7 := ⟨rfl, rfl, inl_X7, tyX7_ok, nmX7, by decide +kernel⟩
theorem inl_X8 : ∀ w ∈ u_ws RX8 TX8 18, w ∈ TS := by
  have h : (u_ws RX8 TX8 18).all (fun w => decide (w ∈ lw_tbl) && goodWord w) = true := by decide +kernel
  intro w hw
  have h1 := List.all_eq_true.mp h w hw
  simp only [Bool.and_eq_true, decide_eq_true_eq] at h1
  exact List.mem_filter.mpr h1
theorem clF_8 : ClF 8 RX8 TX8 18 tyX8 := ⟨rfl, rfl, inl_X8, tyX8_ok, nmX8, by decide +kernel⟩
theorem inl_X10 : ∀ w ∈ u_ws RX10 TX10 4, w ∈ TS := by
  have h : (u_ws RX10 TX10 4).all (fun w => decide (w ∈ lw_tbl) && goodWord w) = true := by decide +kernel
  intro w hw
  have h1 := List.all_eq_true.mp h w hw
  simp only [Bool.and_eq_true, decide_eq_true_eq] at h1
  exact List.mem_filter.mpr h1
theorem clF_9 : ClF 9 RX10 TX10 4 tyX10 := ⟨rfl, rfl, inl_X10, tyX10_ok, nmX10, by decide +kernel⟩
theorem inl_X11 : ∀ w ∈ u_ws RX11 TX11 13, w ∈ TS := by
  have h : (u_ws RX11 TX11 13).all (fun w => decide (w ∈ lw_tbl) && goodWord w) = true := by decide +kernel
  intro w hw
  have h1 := List.all_eq_true.mp h w hw
  simp only [Bool.and_eq_true, decide_eq_true_eq] at h1
  exact List.mem_filter.mpr h1
theorem clF_10 : ClF 10 RX11 TX11 13 tyX11 := ⟨rfl, rfl, inl_X11, tyX11_ok, nmX11, by decide +kernel⟩
theorem inl_X12 : ∀ w ∈ u_ws RX12 TX12 86, w ∈ TS := by
  have h : (u_ws RX12 TX12 86).all (fun w => decide (w ∈ lw_tbl) && goodWord w) = true := by decide +kernel
  intro w hw
  have h1 := List.all_eq_true.mp h w hw
  simp only [Bool.and_eq_true, decide_eq_true_eq] at h1
  exact List.mem_filter.mpr h1
theorem clF_11 : ClF 11 RX12 TX12 86 tyX12 := ⟨rfl, rfl, inl_X12, tyX12_ok, nmX12, by decide +kernel⟩
theorem ini_J0 : Cond.initialized RJ0 ∈ TS := (in_TS 132 (by decide +kernel) rfl)
theorem ini_J1 : Cond.initialized RJ1 ∈ TS := (in_TS 133 (by decide +kernel) rfl)
theorem ini_J6 : Cond.initialized RJ6 ∈ TS := (in_TS 141 (by decide +kernel) rfl)
theorem ini_J7 : Cond.initialized RJ7 ∈ TS := (in_TS 122 (by decide +kernel) rfl)
theorem ini_X0 : Cond.initialized RX0 ∈ TS := (in_TS 119 (by decide +kernel) rfl)
theorem ini_X1 : Cond.initialized RX1 ∈ TS := (in_TS 123 (by decide +kernel) rfl)
theorem ini_X10 : Cond.initialized RX10 ∈ TS := (in_TS 117 (by decide +kernel) rfl)
theorem ini_X11 : Cond.initialized RX11 ∈ TS := (in_TS 116 (by decide +kernel) rfl)
theorem ini_X12 : Cond.initialized RX12 ∈ TS := (in_TS 129 (by decide +kernel) rfl)
theorem ini_X2 : Cond.initialized RX2 ∈ TS := (in_TS 124 (by decide +kernel) rfl)
theorem ini_X3 : Cond.initialized RX3 ∈ TS := (in_TS 121 (by decide +kernel) rfl)
theorem ini_X4 : Cond.initialized RX4 ∈ TS := (in_TS 118 (by decide +kernel) rfl)
theorem ini_X5 : Cond.initialized RX5 ∈ TS := (in_TS 126 (by decide +kernel) rfl)
theorem ini_X6 : Cond.initialized RX6 ∈ TS := (in_TS 127 (by decide +kernel) rfl)
theorem ini_X7 : Cond.initialized RX7 ∈ TS := (in_TS 120 (by decide +kernel) rfl)
theorem ini_X8 : Cond.initialized RX8 ∈ TS := (in_TS 125 (by decide +kernel) rfl)
