section THROW
variable {p : Program} {l : Launch} {e : Env} {R : Room} {s : State} {m : MethodId} {args : Array Value} {below : List Frame} {meth : Method} {c : Code} {wd : WD} {own : String} {cc : ByteArray} {nL : Nat} {ret : Option FieldType} {nc nw pc : Nat}
/-- an exception is made and thrown -/
def i_throw (x : Nat) : Fn := fun _ S h => if (S.map fun v => v.category).sum ≤ 8 then some (.inr x, xt h) else none
/-- the words of a throw -/
def thW (own : String) (ik ic : Nat) (cls : String) (names : List String) : Prop := ∀ w ∈ Cond.classLink own ik cls :: Cond.initialized cls :: vx_atS own ic cls names, w ∈ lw_tbl ∧ (goodWord w = true ∨ isNw w = true) ∧ vx_ot w = true
theorem thW_of {own : String} {ik ic : Nat} {cls : String} {names : List String} (h : (Cond.classLink own ik cls :: Cond.initialized cls :: vx_atS own ic cls names).all (fun w => decide (w ∈ lw_tbl) && (goodWord w || isNw w) && vx_ot w) = true) : thW own ik ic cls names := by
  intro w hw
  have h1 := List.all_eq_true.mp h w hw
  simp only [Bool.and_eq_true, Bool.or_eq_true, decide_eq_true_eq] at h1
  exact ⟨h1.1.1, h1.1.2, h1.2⟩
theorem isNw_tab {w : Cond} (h : isNw w = true) : w.onTables = true := by
  cases w <;> first | rfl | (exfalso; revert h; simp [isNw]; done)
theorem thW.use (A : Act p l s m args meth c wd own cc nL ret) {own' : String} {ik ic : Nat} {cls : String} {names : List String} (t : thW own' ik ic cls names) {w : Cond} (hw : w ∈ Cond.classLink own' ik cls :: Cond.initialized cls :: vx_atS own' ic cls names) : w.before args s = true := by
  obtain ⟨h1, h2, -⟩ := t w hw
  rcases h2 with h2 | h2
  · exact A.tsA w (List.mem_filter.mpr ⟨h1, h2⟩)
  · exact A.nest h1 h2 (isNw_tab h2)
theorem PH.grown {h : AH} {H : Heap} {t : State} (hP : PH wd h H) (hz : H.size ≤ t.heap.size) (hq : ∀ q : Nat, q < H.size → t.heap[q]? = H[q]?) : PH wd (xt h) t.heap := by
  refine ⟨fun k q hk => (hP.1 k q ?_).kept (hq _ (hP.1 k q ?_).lt), hP.2.1, fun z => absurd (show (1 : Nat) = 0 from z) (by decide)⟩
  · exact hk
  · exact hk
theorem Xc_of {h : AH} {H : Heap} {locs : List Loc} {x : Nat} (hP : PH wd h H) (hS : va_S (AO wd) s.heap H locs) (t : State) (hz : H.size ≤ t.heap.size) (hq : ∀ q : Nat, q < H.size → t.heap[q]? = H[q]?) : XcO wd (.inr x, xt h) (exN x) s t :=
  ⟨⟨x, xt h, rfl, rfl, hP.grown hz hq⟩, Nat.le_trans hS.1 hz, fun q h1 h2 => (hq q (Nat.lt_of_lt_of_le h1 hS.1)).trans (hS.2.1 q h1 h2)⟩
def exNs : List String := ["java/lang/RuntimeException", "java/lang/Exception"]
theorem sn_throwW {mc ms : Nat} {x ik is ic k : Nat} {tx : String} (A : Act p l s m args meth c wd own cc nL ret) (hex : ∀ x ∈ c.exceptionTable.toList, False) (hR : R.cells = mc ∧ R.slots = ms) (hd : 6 ≤ R.frames ∧ 150 ≤ R.locals)
    (t : thW own ik ic (exN x) exNs) (hfit : Bundle.fit (exN x) = true) (htx : (own, is, tx, k) ∈ txRefs)
    (d0 : decode cc pc = .ok (.new ik, 3)) (d3 : decode cc (pc + 3) = .ok (.dup, 1)) (d4 : decode cc (pc + 4) = .ok (.ldc_w is, 3)) (d7 : decode cc (pc + 7) = .ok (.invokespecial ic, 3)) (d10 : decode cc (pc + 10) = .ok (.athrow, 1)) :
    Snd p l e R s m args below meth c wd nL (QO below wd args s mc ms) 1 6 pc (i_throw x) := by
  intro L S h o H locs cells slots ls hf hn hL hP hS h1 h2
  unfold i_throw at hf
  split at hf
  · next hc =>
    cases hf
    refine vx_throwSW (A := AO wd) A.exA A.ccA A.kkA.trK A.ownA hfit (names := exNs) (by decide +kernel) (t.use A List.mem_cons_self) (t.use A (List.mem_cons_of_mem _ List.mem_cons_self)) (A.kkA.txK _ htx) (fun w hw => t.use A (List.mem_cons_of_mem _ (List.mem_cons_of_mem _ hw))) (fun w hw => (t w hw).2.2) A.kkA.sfK.2.2.2.2.2.1 A.kkA.sfK.2.2.2.2.2.2.1 hS (by rw [hL.1, A.mlA]) d0 d3 d4 d7 d10 (fun x hx => (hex x hx).elim) (by show 2 + 3 < R.frames; omega) ?_ (by omega) (by omega) A.lkA (fun t' ht hz hq => Xc_of hP hS t' hz hq) hS.2.2 (by omega) (by omega)
    rw [cv_sum]
    show _ + (13 * (2 + 1) + 43) ≤ _
    omega
  · cases hf
end THROW
