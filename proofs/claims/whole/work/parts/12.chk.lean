section CHK
variable {l : Launch} {wd : WD}
/-! java.lang.String.checkIndex(int, int) and what it calls: the formatter is only carried -/
theorem dJ3c_0 : decode cJ3_checkIndex_8e157 0 = .ok (.iload_n 0, 1) := by decide +kernel
theorem dJ3c_1 : decode cJ3_checkIndex_8e157 1 = .ok (.ifCond .lt 8, 3) := by decide +kernel
theorem dJ3c_4 : decode cJ3_checkIndex_8e157 4 = .ok (.iload_n 0, 1) := by decide +kernel
theorem dJ3c_5 : decode cJ3_checkIndex_8e157 5 = .ok (.iload_n 1, 1) := by decide +kernel
theorem dJ3c_6 : decode cJ3_checkIndex_8e157 6 = .ok (.if_icmp .lt 10, 3) := by decide +kernel
theorem dJ3c_16 : decode cJ3_checkIndex_8e157 16 = .ok (.iload_n 0, 1) := by decide +kernel
theorem dJ3c_17 : decode cJ3_checkIndex_8e157 17 = .ok (.ireturn, 1) := by decide +kernel
theorem dJ0c_0 : decode cJ0_checkIndex_df160 0 = .ok (.iload_n 0, 1) := by decide +kernel
theorem dJ0c_1 : decode cJ0_checkIndex_df160 1 = .ok (.iload_n 1, 1) := by decide +kernel
theorem dJ0c_2 : decode cJ0_checkIndex_df160 2 = .ok (.getstatic 1053, 3) := by decide +kernel
theorem dJ0c_5 : decode cJ0_checkIndex_df160 5 = .ok (.invokestatic 1059, 3) := by decide +kernel
theorem dJ0c_8 : decode cJ0_checkIndex_df160 8 = .ok (.pop, 1) := by decide +kernel
theorem dJ0c_9 : decode cJ0_checkIndex_df160 9 = .ok (.return_, 1) := by decide +kernel
set_option maxRecDepth 100000 in
theorem mf_J3c : MF yJ3_checkIndex_8e157 cJ3_checkIndex_8e157 3 (some .int) 3 := ⟨in_T1 705 rfl rfl, in_TS 134 (by decide +kernel) rfl, ⟨by decide, by decide⟩, by decide +kernel⟩
theorem ms_J3c : Cond.static yJ3_checkIndex_8e157 ∈ TS := in_TS 819 (by decide +kernel) rfl
theorem lk_J3c : Cond.methodLink RJ0 1059 yJ3_checkIndex_8e157 ∈ TS := in_TS 818 (by decide +kernel) rfl
theorem lk_J0f : Cond.fieldLink RJ0 1053 RJ3 "SIOOBE_FORMATTER" "Ljava/util/function/BiFunction;" ∈ TS := in_TS 816 (by decide +kernel) rfl
theorem met_J3c (v : Value) (hv : v = .null ∨ ∃ t, v = .ref t) {i n : Int32} (h0 : ¬ i < 0) (h1 : i < n) (h : AH) : vx_Met l yJ3_checkIndex_8e157 (Cond.code yJ3_checkIndex_8e157 cJ3_checkIndex_8e157 3 (some .int) :: TS) (rmO 1 0 0) (va_Pc [.int i, .int n, v] (fun U => PH wd h U.heap ∧ KK l wd U)) (QcO wd (.inl (some (.int i)), h)) (XcO wd (.inl (some (.int i)), h)) 0 0 (AO wd) := by
  refine vx_ofW (cc := cJ3_checkIndex_8e157) (maxL := 3) (ret := some .int) (ws' := TS) (by decide +kernel) rfl ?_
  intro p e s m args below meth c s₁ B hml hex hv9
  obtain ⟨rfl, hP, hK⟩ := hv9
  have hx := B.exec
  have hb := B.bytes
  have hcat : v.category = 1 := by rcases hv with rfl | ⟨t, rfl⟩ <;> rfl
  have hl := lv_entry ([.int i, .int n, v]) (n := 3) (by rcases hv with rfl | ⟨t, rfl⟩ <;> exact Nat.le_of_ble_eq_true rfl)
  rw [lg_entry_eq]
  generalize (lg_sl ([.int i, .int n, v]) ++ List.replicate (3 - (lg_sl ([.int i, .int n, v])).length) Slot.unset).toArray = ls at hl ⊢
  have hl : lv_has ls 3 [(0, .int i), (1, .int n), (2, v)] := hl
  refine lv_iload_n hx hb dJ3c_0 rfl (lv_at hl 0 rfl) ?_
  refine lv_if_lt (tgt := 9) hx hb dJ3c_1 (by decide) (fun z => absurd z h0) (fun _ => ?_)
  refine lv_iload_n hx hb dJ3c_4 rfl (lv_at hl 0 rfl) ?_
  refine lv_iload_n hx hb dJ3c_5 rfl (lv_at hl 1 rfl) ?_
  refine lv_icmp_lt (tgt := 16) hx hb dJ3c_6 (by decide) (fun _ => ?_) (fun z => absurd h1 z)
  refine lv_iload_n hx hb dJ3c_16 rfl (lv_at hl 0 rfl) ?_
  refine vx_ret (W.iret hx hb B.returns (fun t ht _ => ⟨⟨_, h, rfl, rfl, by rw [ht]; exact hP⟩, va_S.rf.F ht⟩) (fun _ z => nomatch z) dJ3c_17 B.notSynchronized)
def fJ0_checkIndex : Fn := fun L S h => match L, S with
  | [some (.int i), some (.int n)], [] => if ¬ i < 0 ∧ i < n then some (.inl none, h) else none
  | _, _ => none
def mJ0_checkIndex_df160 : List Value → AH → Option Ou := runF 2 fJ0_checkIndex
theorem ct_J0_checkIndex_df160 (l : Launch) (wd : WD) : CT l wd yJ0_checkIndex_df160 cJ0_checkIndex_df160 2 none 2 0 0 mJ0_checkIndex_df160 := by
  refine CT.of (by decide +kernel) runF_ok (F := fJ0_checkIndex) ?_
  intro p e s m args below meth c A hname hex L S h o H locs cells slots ls hf hn hL hP hS h1 h2
  unfold fJ0_checkIndex at hf
  split at hf
  · next i n =>
    split at hf
    · next hc =>
      cases hf
      have hq : ∃ v : Value, (v = .null ∨ ∃ t, v = .ref t) ∧ va_Z RJ3 "SIOOBE_FORMATTER" "Ljava/util/function/BiFunction;" v (AO wd) s s.heap := by
        rcases A.kkA.sfK.2.2.2.2.2.2.2.2 with z | ⟨t, z⟩
        · exact ⟨_, Or.inl rfl, z⟩
        · exact ⟨_, Or.inr ⟨t, rfl⟩, z⟩
      obtain ⟨v, hv, hZ⟩ := hq
      have hcat : v.category = 1 := by rcases hv with rfl | ⟨t, rfl⟩ <;> rfl
      refine lv_iload_n A.exA A.ccA dJ0c_0 rfl (hL.at (i := 0) rfl) ?_
      refine lv_iload_n A.exA A.ccA dJ0c_1 rfl (hL.at (i := 1) rfl) ?_
      refine va_gets A.exA A.ccA hZ hS A.ownA (A.tsA _ lk_J0f) (fun _ h => h) dJ0c_2 ?_
      have hM := met_J3c (l := l) (wd := wd) v hv hc.1 hc.2 h
      have hp : PreS s H (va_Pc [.int i, .int n, v] (fun U => PH wd h U.heap ∧ KK l wd U)) [.int i, .int n, v] := ⟨blind_O, fun U hU hW => ⟨rfl, by rw [hU]; exact hP, A.into hS hU hW⟩⟩
      refine run_W (vx_runS (rest := []) A.fix hM ⟨⟨rfl, rfl, Nat.le_of_ble_eq_true rfl, Nat.le_of_ble_eq_true rfl, A.pay mf_J3c.1, List.mem_cons_self, A.tsA _ mf_J3c.1, A.tsA _ mf_J3c.2.1, mf_J3c.2.2.1, mf_J3c.len, A.tsA _ lk_J3c⟩, A.tsA _ ms_J3c⟩ hp rfl rfl hL.1 rfl (lv_room (Nat.le_of_ble_eq_true rfl)) dJ0c_5 ⟨by omega, by omega⟩) hS (fun v1 h1' H1 locs1 e1 g1 g2 => ?_) (fun x h1' H1 locs1 q ce e1 _ _ _ _ _ => by cases e1)
      cases e1
      refine lv_pop A.exA A.ccA dJ0c_8 rfl ?_
      exact W_end g1 g2 (by have z : (rmO 2 0 0).cells = 0 := rfl; omega) (by have z : (rmO 2 0 0).slots = 0 := rfl; omega) (fun Qc hq => W.vret A.exA A.ccA A.retA hq g2.2.2 dJ0c_9 A.lkA)
    · cases hf
  · cases hf
end CHK
