/-! numbers: N k a Nat, J z an Int, as 32 bits; bt x k: bit k -/
def N (k : Nat) : Int32 := Int32.ofNat k
def J (z : Int) : Int32 := Int32.ofInt z
def bt (x : Int32) (k : Nat) : Bool := x.toBitVec.getLsbD k
theorem lit32 (n : Nat) : (OfNat.ofNat n : Int32) = N (OfNat.ofNat n) := rfl
theorem ofNat_N (n : Nat) : Int32.ofNat n = N n := rfl
theorem N_J (n : Nat) : N n = J n := (Int32.ofInt_eq_ofNat).symm
theorem neg_N1 : -(N 1) = J (-1) := by decide
theorem neg_N2 : -(N 2) = J (-2) := by decide
theorem neg_N3 : -(N 3) = J (-3) := by decide
theorem neg_N4 : -(N 4) = J (-4) := by decide
theorem neg_far : -(N 1000000) = J (-1000000) := by decide
theorem J_neg (z : Int) : -(J z) = J (-z) := Int32.neg_ofInt
theorem N_neg (n : Nat) : -(N n) = J (-n) := by rw [N_J, J_neg]
theorem N_add (a b : Nat) : N a + N b = N (a + b) := (Int32.ofNat_add a b).symm
theorem N_mul (a b : Nat) : N a * N b = N (a * b) := (Int32.ofNat_mul a b).symm
theorem N_sub {a b : Nat} (h : b ≤ a) : N a - N b = N (a - b) := (Int32.ofNat_sub a b h).symm
theorem J_add (a b : Int) : J a + J b = J (a + b) := (Int32.ofInt_add a b).symm
theorem J_sub (a b : Int) : J a - J b = J (a - b) := (Int32.ofInt_sub a b).symm
theorem J_mul (a b : Int) : J a * J b = J (a * b) := (Int32.ofInt_mul a b).symm
theorem JN_add (a : Int) (b : Nat) : J a + N b = J (a + b) := by rw [N_J, J_add]
theorem NJ_add (a : Nat) (b : Int) : N a + J b = J (a + b) := by rw [N_J, J_add]
theorem JN_sub (a : Int) (b : Nat) : J a - N b = J (a - b) := by rw [N_J, J_sub]
theorem NJ_sub (a : Nat) (b : Int) : N a - J b = J (a - b) := by rw [N_J, J_sub]
theorem NN_sub (a b : Nat) : N a - N b = J ((a : Int) - b) := by rw [N_J, N_J, J_sub]
theorem N_int {a : Nat} (h : a < 2147483648) : (N a).toInt = a := Int32.toInt_ofNat_of_lt h
theorem J_int {a : Int} (h : -2147483648 ≤ a) (h2 : a < 2147483648) : (J a).toInt = a := Int32.toInt_ofInt_of_le h h2
theorem N_nat {a : Nat} (h : a < 2147483648) : (N a).toNatClampNeg = a := Int32.toNatClampNeg_ofNat_of_lt h
theorem J_nat {a : Int} (h : -2147483648 ≤ a) (h2 : a < 2147483648) : (J a).toNatClampNeg = a.toNat := Int32.toNatClampNeg_ofInt_of_le h h2
theorem N_lt {a b : Nat} (ha : a < 2147483648) (hb : b < 2147483648) : (N a < N b) = (a < b) := propext (Int32.ofNat_lt_iff_lt ha hb)
theorem N_le {a b : Nat} (ha : a < 2147483648) (hb : b < 2147483648) : (N a ≤ N b) = (a ≤ b) := propext (Int32.ofNat_le_iff_le ha hb)
theorem N_eq {a b : Nat} (ha : a < 2147483648) (hb : b < 2147483648) : (N a = N b) = (a = b) := propext ⟨fun h => by have := congrArg Int32.toNatClampNeg h; rwa [N_nat ha, N_nat hb] at this, fun h => by rw [h]⟩
theorem J_lt {a b : Int} (h1 : -2147483648 ≤ a) (h2 : a < 2147483648) (h3 : -2147483648 ≤ b) (h4 : b < 2147483648) : (J a < J b) = (a < b) := by
  rw [Int32.lt_iff_toInt_lt, J_int h1 h2, J_int h3 h4]
theorem J_le {a b : Int} (h1 : -2147483648 ≤ a) (h2 : a < 2147483648) (h3 : -2147483648 ≤ b) (h4 : b < 2147483648) : (J a ≤ J b) = (a ≤ b) := by
  rw [Int32.le_iff_toInt_le, J_int h1 h2, J_int h3 h4]
theorem J_eq {a b : Int} (h1 : -2147483648 ≤ a) (h2 : a < 2147483648) (h3 : -2147483648 ≤ b) (h4 : b < 2147483648) : (J a = J b) = (a = b) := by
  rw [← Int32.toInt_inj, J_int h1 h2, J_int h3 h4]
theorem JN_lt {a : Int} {b : Nat} (h1 : -2147483648 ≤ a) (h2 : a < 2147483648) (h4 : b < 2147483648) : (J a < N b) = (a < b) := by rw [N_J, J_lt h1 h2 (by omega) (by omega)]
theorem NJ_lt {a : Nat} {b : Int} (h2 : a < 2147483648) (h3 : -2147483648 ≤ b) (h4 : b < 2147483648) : (N a < J b) = ((a : Int) < b) := by rw [N_J, J_lt (by omega) (by omega) h3 h4]
theorem JN_le {a : Int} {b : Nat} (h1 : -2147483648 ≤ a) (h2 : a < 2147483648) (h4 : b < 2147483648) : (J a ≤ N b) = (a ≤ b) := by rw [N_J, J_le h1 h2 (by omega) (by omega)]
theorem NJ_le {a : Nat} {b : Int} (h2 : a < 2147483648) (h3 : -2147483648 ≤ b) (h4 : b < 2147483648) : (N a ≤ J b) = ((a : Int) ≤ b) := by rw [N_J, J_le (by omega) (by omega) h3 h4]
theorem JN_eq {a : Int} {b : Nat} (h1 : -2147483648 ≤ a) (h2 : a < 2147483648) (h4 : b < 2147483648) : (J a = N b) = (a = b) := by rw [N_J, J_eq h1 h2 (by omega) (by omega)]
theorem NJ_eq {a : Nat} {b : Int} (h2 : a < 2147483648) (h3 : -2147483648 ≤ b) (h4 : b < 2147483648) : (N a = J b) = ((a : Int) = b) := by rw [N_J, J_eq (by omega) (by omega) h3 h4]
theorem N_div {a b : Nat} (ha : a < 2147483648) (hb : b < 2147483648) : N a / N b = N (a / b) := (Int32.ofNat_div ha hb).symm
theorem J_toInt (x : Int32) : J x.toInt = x := Int32.ofInt_toInt x
theorem of_nn {x : Int32} (h : 0 ≤ x) : x = N x.toNatClampNeg := (Int32.ofNat_toNatClampNeg x h).symm
theorem clamp_lt (x : Int32) : x.toNatClampNeg < 2147483648 := Int32.toNatClampNeg_lt x
theorem lt_tt {a b : Nat} (h : a < b) : (a < b) = True := eq_true h
theorem lt_ff {a b : Nat} (h : b ≤ a) : (a < b) = False := eq_false (Nat.not_lt.mpr h)
theorem le_tt {a b : Nat} (h : a ≤ b) : (a ≤ b) = True := eq_true h
theorem le_ff {a b : Nat} (h : b < a) : (a ≤ b) = False := eq_false (Nat.not_le.mpr h)
theorem eqn_ff {a b : Nat} (h : a < b ∨ b < a) : (a = b) = False := eq_false (by omega)
theorem ilt_tt {a b : Int} (h : a < b) : (a < b) = True := eq_true h
theorem ilt_ff {a b : Int} (h : b ≤ a) : (a < b) = False := eq_false (Int.not_lt.mpr h)
theorem ile_tt {a b : Int} (h : a ≤ b) : (a ≤ b) = True := eq_true h
theorem ile_ff {a b : Int} (h : b < a) : (a ≤ b) = False := eq_false (Int.not_le.mpr h)
theorem ieq_ff {a b : Int} (h : a < b ∨ b < a) : (a = b) = False := eq_false (by omega)
/-! bits -/
theorem bt_ext {x y : Int32} (h : ∀ k, k < 32 → bt x k = bt y k) : x = y := Int32.toBitVec.inj (BitVec.eq_of_getLsbD_eq h)
theorem bt_and (x y : Int32) (k : Nat) : bt (x &&& y) k = (bt x k && bt y k) := by simp [bt]
theorem bt_or (x y : Int32) (k : Nat) : bt (x ||| y) k = (bt x k || bt y k) := by simp [bt]
theorem bt_xor (x y : Int32) (k : Nat) : bt (x ^^^ y) k = (bt x k ^^ bt y k) := by simp [bt]
theorem bt_m1 {k : Nat} (h : k < 32) : bt (J (-1)) k = true := by
  have e : (J (-1)).toBitVec = BitVec.allOnes 32 := by decide
  unfold bt
  rw [e, BitVec.getLsbD_allOnes]
  simp only [h, decide_true]
theorem bt_0 (k : Nat) : bt (N 0) k = false := by simp [bt, N]
theorem bt_N {a k : Nat} (h : k < 32) : bt (N a) k = a.testBit k := by
  show (BitVec.ofNat 32 a).getLsbD k = _
  rw [BitVec.getLsbD_ofNat]
  simp only [h, decide_true, Bool.true_and]
theorem bt_ge {x : Int32} {k : Nat} (h : 32 ≤ k) : bt x k = false := by
  unfold bt
  exact BitVec.getLsbD_of_ge _ _ h
theorem shv {k : Nat} (h : k < 32) : ((N k &&& N 31).toBitVec.smod 32#32) = BitVec.ofNat 32 k := by
  have : ∀ k : Fin 32, ((N k.val &&& N 31).toBitVec.smod 32#32) = BitVec.ofNat 32 k.val := by decide +kernel
  exact this ⟨k, h⟩
theorem shr_bv (x : Int32) {k : Nat} (h : k < 32) : (x >>> (N k &&& N 31)).toBitVec = x.toBitVec.sshiftRight k := by
  have e : (x >>> (N k &&& N 31)).toBitVec = BitVec.sshiftRight' x.toBitVec ((N k &&& N 31).toBitVec.smod 32#32) := rfl
  rw [e, shv h]
  simp [BitVec.sshiftRight', Nat.mod_eq_of_lt (show k < 4294967296 by omega)]
theorem shl_bv (x : Int32) {k : Nat} (h : k < 32) : (x <<< (N k &&& N 31)).toBitVec = x.toBitVec <<< k := by
  have e : (x <<< (N k &&& N 31)).toBitVec = x.toBitVec <<< ((N k &&& N 31).toBitVec.smod 32#32) := rfl
  rw [e, shv h]
  simp [Nat.mod_eq_of_lt (show k < 4294967296 by omega)]
/-- the test of a bit -/
theorem bit_0 (x : Int32) {k : Nat} (h : k < 32) : ((x >>> (N k &&& N 31)) &&& N 1 = N 0) = (bt x k = false) := by
  apply propext
  have hb : ∀ j, j < 32 → bt ((x >>> (N k &&& N 31)) &&& N 1) j = (if j = 0 then bt x k else false) := by
    intro j hj
    rw [bt_and, bt_N hj]
    by_cases h0 : j = 0
    · subst h0
      have e : bt (x >>> (N k &&& N 31)) 0 = bt x k := by
        unfold bt
        rw [shr_bv x h, BitVec.getLsbD_sshiftRight]
        simp [h]
      rw [e]
      simp
    · rw [if_neg h0]
      have e : Nat.testBit 1 j = false := by
        cases j with
        | zero => exact absurd rfl h0
        | succ n => simp [Nat.testBit_succ]
      rw [e, Bool.and_false]
  constructor
  · intro e
    have := hb 0 (by omega)
    rw [e, bt_0, if_pos rfl] at this
    exact this.symm
  · intro e
    apply bt_ext
    intro j hj
    rw [hb j hj, bt_0, e]
    split <;> rfl
theorem bit_1 (x : Int32) {k : Nat} (h : k < 32) : ((x >>> (N k &&& N 31)) &&& N 1 = N 1) = (bt x k = true) := by
  apply propext
  have hb : ∀ j, j < 32 → bt ((x >>> (N k &&& N 31)) &&& N 1) j = (if j = 0 then bt x k else false) := by
    intro j hj
    rw [bt_and, bt_N hj]
    by_cases h0 : j = 0
    · subst h0
      have e : bt (x >>> (N k &&& N 31)) 0 = bt x k := by
        unfold bt
        rw [shr_bv x h, BitVec.getLsbD_sshiftRight]
        simp [h]
      rw [e]
      simp
    · rw [if_neg h0]
      have e : Nat.testBit 1 j = false := by
        cases j with
        | zero => exact absurd rfl h0
        | succ n => simp [Nat.testBit_succ]
      rw [e, Bool.and_false]
  constructor
  · intro e
    have := hb 0 (by omega)
    rw [e, if_pos rfl] at this
    rw [← this]
    decide
  · intro e
    apply bt_ext
    intro j hj
    rw [hb j hj, e, bt_N hj]
    by_cases h0 : j = 0
    · subst h0; rfl
    · rw [if_neg h0]
      cases j with
      | zero => exact absurd rfl h0
      | succ n => simp [Nat.testBit_succ]
theorem bt_one {j k : Nat} (h : k < 32) (hj : j < 32) : bt (N 1 <<< (N k &&& N 31)) j = decide (j = k) := by
  unfold bt
  rw [shl_bv _ h]
  have e : (N 1).toBitVec = 1#32 := by decide
  rw [e, BitVec.getLsbD_shiftLeft]
  by_cases h1 : j < k
  · simp [h1, Nat.ne_of_lt h1]
  · by_cases h2 : j = k
    · subst h2; simp [h]
    · have : j - k ≠ 0 := by omega
      simp [h2, this]
theorem bt_all {n k : Nat} (h : n < 31) (hk : k < 32) : bt (N 1 <<< (N n &&& N 31) - N 1) k = decide (k < n) := by
  have e : N 1 <<< (N n &&& N 31) - N 1 = N (2 ^ n - 1) := by
    have : ∀ n : Fin 31, N 1 <<< (N n.val &&& N 31) - N 1 = N (2 ^ n.val - 1) := by decide +kernel
    exact this ⟨n, h⟩
  rw [e, bt_N hk, Nat.testBit_two_pow_sub_one]
theorem all_N {n : Nat} (h : n < 31) : N 1 <<< (N n &&& N 31) - N 1 = N (2 ^ n - 1) := by
  have : ∀ n : Fin 31, N 1 <<< (N n.val &&& N 31) - N 1 = N (2 ^ n.val - 1) := by decide +kernel
  exact this ⟨n, h⟩
theorem one_N {n : Nat} (h : n < 31) : N 1 <<< (N n &&& N 31) = N (2 ^ n) := by
  have : ∀ n : Fin 31, N 1 <<< (N n.val &&& N 31) = N (2 ^ n.val) := by decide +kernel
  exact this ⟨n, h⟩
/-- few bits: a small number -/
theorem bt_small {x : Int32} {n : Nat} (hn : n < 32) (h : ∀ k, n ≤ k → k < 32 → bt x k = false) : ∃ a, a < 2 ^ n ∧ x = N a := by
  refine ⟨x.toBitVec.toNat, ?_, ?_⟩
  · apply Nat.lt_pow_two_of_testBit
    intro i hi
    by_cases h32 : i < 32
    · have := h i hi h32
      rwa [bt, ← BitVec.testBit_toNat] at this
    · apply Nat.testBit_lt_two_pow
      exact Nat.lt_of_lt_of_le x.toBitVec.isLt (Nat.pow_le_pow_right (by decide) (by omega))
  · unfold N
    rw [Int32.ofNat_bitVecToNat, Int32.ofBitVec_toBitVec]
/-- a loop that counts up -/
theorem loop_up {σ : Type} {f : Nat → Nat → σ → Option Ou} {n : Nat} {Inv : Nat → σ → Prop} {P : Option Ou → Prop}
    (step : ∀ fu i s, i < n → Inv i s → (∃ s', Inv (i + 1) s' ∧ f (fu + 1) i s = f fu (i + 1) s') ∨ P (f (fu + 1) i s))
    (stop : ∀ fu s, Inv n s → P (f (fu + 1) n s)) : ∀ fu i s, i ≤ n → n < i + fu → Inv i s → P (f fu i s) := by
  intro fu
  induction fu with
  | zero => intro i s h1 h2; omega
  | succ m ih =>
    intro i s h1 h2 hI
    by_cases h : i < n
    · rcases step m i s h hI with ⟨s', hI', e⟩ | hp
      · rw [e]
        exact ih (i + 1) s' (by omega) (by omega) hI'
      · exact hp
    · have : i = n := by omega
      subst this
      exact stop m s hI
theorem fuel_1 : fuelN = 4095 + 1 := rfl
