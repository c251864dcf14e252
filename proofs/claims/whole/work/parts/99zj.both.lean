/-! both brigades are made -/
set_option maxHeartbeats 2000000 in
theorem Gap.zc {a c m : Nat} {h h' : AH} (z : Zc a h) (g : Gap a c h h') (hm : gN h' = m) (hx : gX h' = 0) (hc : a ≤ m) (hcm : c < m) : Zc m h' :=
  ⟨hm, hx, fun x j hxm => by
    obtain ⟨g1, g2, g3⟩ := g x j (by omega)
    obtain ⟨z1, z2, z3⟩ := z.2.2 x j (by omega)
    exact ⟨g1.trans z1, g2.trans z2, g3.trans z3⟩⟩
set_option maxHeartbeats 2000000 in
theorem Zc.put {m a k r : Nat} {h : AH} (z : Zc m h) (ha : a < m) : Zc m (sR h a k (some r)) :=
  ⟨z.1, z.2.1, fun x j hx => by
    obtain ⟨z1, z2, z3⟩ := z.2.2 x j hx
    exact ⟨z1, z2, by rw [gR_sR, if_neg (show ¬ (x = a ∧ j = k) from fun c => by omega)]; exact z3⟩⟩
