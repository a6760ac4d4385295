/-! ===== bits of longs ===== -/
def bl (x : Int64) (i : Nat) : Bool := x.toBitVec.getLsbD i
theorem l_ext {x y : Int64} (h : ∀ i, i < 64 → bl x i = bl y i) : x = y := Int64.toBitVec_inj.mp (BitVec.eq_of_getLsbD_eq (fun i hi => h i hi))
theorem l_or (x y : Int64) (i : Nat) : bl (x ||| y) i = (bl x i || bl y i) := by unfold bl; rw [Int64.toBitVec_or, BitVec.getLsbD_or]
theorem l_and (x y : Int64) (i : Nat) : bl (x &&& y) i = (bl x i && bl y i) := by unfold bl; rw [Int64.toBitVec_and, BitVec.getLsbD_and]
theorem l_xor (x y : Int64) (i : Nat) : bl (x ^^^ y) i = (bl x i ^^ bl y i) := by unfold bl; rw [Int64.toBitVec_xor, BitVec.getLsbD_xor]
theorem l_m1 : ∀ i, i < 64 → bl (-1) i = true := by decide +kernel
theorem l_0 (i : Nat) : bl 0 i = false := BitVec.getLsbD_zero
theorem l_1 (e : Nat) : bl 1 e = decide (e = 0) := by
  unfold bl
  show (1#64).getLsbD e = _
  rw [BitVec.getLsbD_one]; simp
theorem sl_l : ∀ n, n < 64 → (((nI n).toInt64 &&& 63).toBitVec.smod 64).toNat = n := by decide +kernel
theorem sl_u : ∀ n, n < 64 → (((nI n).toInt64.toUInt64 &&& Int64.toUInt64 63).toBitVec % 64).toNat = n := by decide +kernel
theorem l_shl (n : Nat) (hn : n < 64) (x : Int64) {i : Nat} (hi : i < 64) : bl (x <<< ((nI n).toInt64 &&& 63)) i = (decide (n ≤ i) && bl x (i - n)) := by
  unfold bl
  rw [Int64.toBitVec_shiftLeft]
  show (x.toBitVec <<< (((nI n).toInt64 &&& 63).toBitVec.smod 64).toNat).getLsbD i = _
  rw [sl_l n hn, BitVec.getLsbD_shiftLeft]
  rcases Nat.lt_or_ge i n with h | h
  · simp [h, Nat.not_le.mpr h]
  · simp [hi, h, Nat.not_lt.mpr h]
theorem l_ushr (n : Nat) (hn : n < 64) (x : Int64) (i : Nat) : bl (uL x (nI n)) i = bl x (n + i) := by
  show (x.toUInt64 >>> ((nI n).toInt64.toUInt64 &&& Int64.toUInt64 63)).toBitVec.getLsbD i = x.toUInt64.toBitVec.getLsbD (n + i)
  rw [UInt64.toBitVec_shiftRight]
  show (x.toUInt64.toBitVec >>> (((nI n).toInt64.toUInt64 &&& Int64.toUInt64 63).toBitVec % 64).toNat).getLsbD i = _
  rw [sl_u n hn, BitVec.getLsbD_ushiftRight]
theorem l_sshr (n : Nat) (hn : n < 64) (x : Int64) {i : Nat} (hi : i < 64) : bl (x >>> ((nI n).toInt64 &&& 63)) i = if n + i < 64 then bl x (n + i) else bl x 63 := by
  unfold bl
  rw [Int64.toBitVec_shiftRight]
  show (x.toBitVec.sshiftRight (((nI n).toInt64 &&& 63).toBitVec.smod 64).toNat).getLsbD i = _
  rw [sl_l n hn, BitVec.getLsbD_sshiftRight, BitVec.msb_eq_getLsbD_last]
  simp [hi]
theorem l_one {k e : Nat} (hk : k < 64) (he : e < 64) : bl ((1 : Int64) <<< ((nI k).toInt64 &&& 63)) e = decide (e = k) := by
  rw [l_shl k hk 1 he, l_1]
  by_cases h : e = k
  · subst h; simp
  · by_cases h2 : k ≤ e
    · rw [decide_eq_true h2, decide_eq_false h, decide_eq_false (by omega)]; rfl
    · rw [decide_eq_false h2, decide_eq_false h]; rfl
theorem lgc0 {x y : Int64} : lg_cmp x y = 0 ↔ x = y := by
  unfold lg_cmp
  by_cases h1 : x > y
  · rw [if_pos h1]
    exact ⟨fun h => absurd h (by decide), fun h => absurd (h ▸ h1) (Int64.lt_irrefl)⟩
  · rw [if_neg h1]
    by_cases h2 : x = y
    · rw [if_pos h2]; exact ⟨fun _ => h2, fun _ => rfl⟩
    · rw [if_neg h2]; exact ⟨fun h => absurd h (by decide), fun h => absurd h h2⟩
theorem l_get {S : Int64} {k : Nat} (hk : k < 64) : lg_cmp ((S >>> ((nI k).toInt64 &&& 63)) &&& 1) 1 = 0 ↔ bl S k = true := by
  rw [lgc0]
  constructor
  · intro h
    have h1 : bl ((S >>> ((nI k).toInt64 &&& 63)) &&& 1) 0 = bl 1 0 := by rw [h]
    rw [l_and, l_sshr k hk S (by omega), l_1, if_pos (by omega), Nat.add_zero] at h1
    simpa using h1
  · intro h
    refine l_ext (fun i hi => ?_)
    rw [l_and, l_1]
    by_cases h0 : i = 0
    · subst h0; rw [l_sshr k hk S hi, if_pos (by omega), Nat.add_zero, h]; rfl
    · rw [decide_eq_false h0, Bool.and_false]
theorem fIn_b {S : Int64} {k : Nat} (hk : k < 64) : fIn S (nI k) = if bl S k = true then 1 else 0 := by
  unfold fIn
  by_cases h : bl S k = true
  · rw [if_pos ((l_get hk).mpr h), if_pos h]
  · rw [if_neg (fun g => h ((l_get hk).mp g)), if_neg h]
theorem fIn_0 {S : Int64} {k : Nat} (hk : k < 64) : fIn S (nI k) = 0 ↔ bl S k = false := by
  rw [fIn_b hk]
  cases bl S k <;> decide
/-! ===== Long.bitCount is at most 64 ===== -/
def tL (x : Int64) : Nat := x.toBitVec.toNat
theorem tL_lt (x : Int64) : tL x < 18446744073709551616 := x.toBitVec.isLt
theorem tL_and (x y : Int64) : tL (x &&& y) = tL x &&& tL y := by unfold tL; rw [Int64.toBitVec_and, BitVec.toNat_and]
theorem tL_add {x y : Int64} (h : tL x + tL y < 18446744073709551616) : tL (x + y) = tL x + tL y := by
  unfold tL at h ⊢
  rw [Int64.toBitVec_add, BitVec.toNat_add]
  exact Nat.mod_eq_of_lt h
theorem tL_sub {x y : Int64} (h : tL y ≤ tL x) : tL (x - y) = tL x - tL y := by
  have hx := tL_lt x
  have hy := tL_lt y
  unfold tL at h hx hy ⊢
  rw [Int64.toBitVec_sub, BitVec.toNat_sub]
  rw [show (2 : Nat) ^ 64 = 18446744073709551616 from rfl]
  omega
theorem tL_u (x : Int64) {k : Nat} (hk : k < 64) : tL (uL x (nI k)) = tL x / 2 ^ k := by
  refine Nat.eq_of_testBit_eq (fun j => ?_)
  rw [Nat.testBit_div_two_pow]
  have h := l_ushr k hk x j
  rw [show tL x = x.toBitVec.toNat from rfl, show j + k = k + j by omega]
  exact h
theorem bl_3 (x : Int64) : tL (bl3 (bl2 (bl1 x))) = spk 8 (tL x) := by
  have hx := tL_lt x
  have e1 : tL (bl1 x) = sp1 8 (tL x) := by
    unfold bl1 sp1
    have h1 : tL (uL x 1 &&& 6148914691236517205) = (tL x / 2) &&& rep 85 8 := by rw [tL_and, show uL x 1 = uL x (nI 1) from rfl, tL_u x (by omega)]; rfl
    have h2 : (tL x / 2) &&& rep 85 8 ≤ tL x / 2 := Nat.and_le_left
    rw [tL_sub (by rw [h1]; omega), h1]
  have hm : rep 51 8 = 3689348814741910323 := rfl
  have e2 : tL (bl2 (bl1 x)) = sp2 8 (sp1 8 (tL x)) := by
    unfold bl2 sp2
    have h1 : tL (uL (bl1 x) 2 &&& 3689348814741910323) = (tL (bl1 x) / 4) &&& rep 51 8 := by rw [tL_and, show uL (bl1 x) 2 = uL (bl1 x) (nI 2) from rfl, tL_u _ (by omega)]; rfl
    have h2 : tL (bl1 x &&& 3689348814741910323) = tL (bl1 x) &&& rep 51 8 := by rw [tL_and]; rfl
    have h3 : (tL (bl1 x) / 4) &&& rep 51 8 ≤ rep 51 8 := Nat.and_le_right
    have h4 : tL (bl1 x) &&& rep 51 8 ≤ rep 51 8 := Nat.and_le_right
    rw [tL_add (by rw [h1, h2]; omega), h1, h2, e1]
  have e3 : sp2 8 (sp1 8 (tL x)) ≤ 7378697629483820646 := by
    unfold sp2
    have h3 : (sp1 8 (tL x) / 4) &&& rep 51 8 ≤ rep 51 8 := Nat.and_le_right
    have h4 : sp1 8 (tL x) &&& rep 51 8 ≤ rep 51 8 := Nat.and_le_right
    omega
  unfold bl3 spk sp3
  have h1 : tL (uL (bl2 (bl1 x)) 4) = sp2 8 (sp1 8 (tL x)) / 16 := by rw [show uL (bl2 (bl1 x)) 4 = uL (bl2 (bl1 x)) (nI 4) from rfl, tL_u _ (by omega), e2]
  rw [tL_and, tL_add (by rw [h1, e2]; omega), h1, e2]
  rfl
theorem bcL_fin {v : Int64} {s0 s1 s2 s3 s4 s5 s6 p7 : Nat} (h : tL v = s0 + 256 * s1 + 65536 * (s2 + 256 * s3 + 65536 * (s4 + 256 * s5 + 65536 * (s6 + 256 * p7)))) (k0 : s0 ≤ 32) (k1 : s1 ≤ 32) (k2 : s2 ≤ 32) (k3 : s3 ≤ 32) (k4 : s4 ≤ 32) (k5 : s5 ≤ 32) (k6 : s6 ≤ 32) (q7 : p7 ≤ 8) : (bl6 v).toInt32 &&& 127 = nI (s0 + s4) := by
  have a5 : tL (uL v 32) = tL v / 4294967296 := by rw [show uL v 32 = uL v (nI 32) from rfl, tL_u _ (by omega)]
  have d3 : tL v / 4294967296 = s4 + 256 * s5 + 65536 * (s6 + 256 * p7) := by omega
  have a6 : tL (bl6 v) = tL v + tL v / 4294967296 := by unfold bl6; rw [tL_add (by rw [a5, d3, h]; omega), a5]
  rw [d3, h] at a6
  have a7 : tL (bl6 v) % 128 = s0 + s4 := by omega
  refine tN_eq ?_ (by omega)
  rw [tN_and, show tN 127 = 2 ^ 7 - 1 from rfl, Nat.and_two_pow_sub_one_eq_mod, ← a7]
  have e9 : tN (bl6 v).toInt32 = tL (bl6 v) % 4294967296 := by
    show (bl6 v).toInt32.toBitVec.toNat = _
    rw [Int64.toBitVec_toInt32]
    show (BitVec.signExtend 32 (bl6 v).toBitVec).toNat = _
    rw [BitVec.signExtend_eq_setWidth_of_le _ (by omega), BitVec.toNat_setWidth]
    rfl
  rw [e9]
  omega
theorem s4le {a b c d : Nat} (ha : a ≤ 8) (hb : b ≤ 8) (hc : c ≤ 8) (hd : d ≤ 8) : a + b + c + d ≤ 32 := by omega
theorem s3le {a b c : Nat} (ha : a ≤ 8) (hb : b ≤ 8) (hc : c ≤ 8) : a + b + c ≤ 32 := by omega
theorem s2le {a b : Nat} (ha : a ≤ 8) (hb : b ≤ 8) : a + b ≤ 32 := by omega
theorem dv8 {p r : Nat} (hp : p ≤ 8) : (p + 256 * r) / 256 = r := by omega
/-- a number in base 65536, four places, each below 3000 -/
theorem dv16 {a b : Nat} (ha : a < 65536) : (a + 65536 * b) / 65536 = b := by omega
theorem bcL_a {y : Int64} {p r : Nat} (h : tL y = p + 256 * r) (hp : p ≤ 8) (hr : r < 10000000000000000) : tL (bl4 y) = p + 256 * r + r := by
  have a1 : tL (uL y 8) = tL y / 256 := by rw [show uL y 8 = uL y (nI 8) from rfl, tL_u _ (by omega)]
  rw [h, dv8 hp] at a1
  unfold bl4
  rw [tL_add (by rw [a1, h]; omega), a1, h]
theorem bcL_b {z : Int64} {a b : Nat} (h : tL z = a + 65536 * b) (ha : a < 65536) (hb : b < 100000000000000) : tL (bl5 z) = a + 65536 * b + b := by
  have a1 : tL (uL z 16) = tL z / 65536 := by rw [show uL z 16 = uL z (nI 16) from rfl, tL_u _ (by omega)]
  rw [h, dv16 ha] at a1
  unfold bl5
  rw [tL_add (by rw [a1, h]; omega), a1, h]
theorem arr1 (p0 p1 p2 p3 p4 p5 p6 p7 : Nat) : p0 + 256 * (p1 + 256 * (p2 + 256 * (p3 + 256 * (p4 + 256 * (p5 + 256 * (p6 + 256 * p7)))))) + (p1 + 256 * (p2 + 256 * (p3 + 256 * (p4 + 256 * (p5 + 256 * (p6 + 256 * p7)))))) = (p0 + p1 + 256 * (p1 + p2)) + 65536 * ((p2 + p3 + 256 * (p3 + p4)) + 65536 * ((p4 + p5 + 256 * (p5 + p6)) + 65536 * (p6 + p7 + 256 * p7))) := by omega
theorem arr2 (p0 p1 p2 p3 p4 p5 p6 p7 : Nat) : (p0 + p1 + 256 * (p1 + p2)) + 65536 * ((p2 + p3 + 256 * (p3 + p4)) + 65536 * ((p4 + p5 + 256 * (p5 + p6)) + 65536 * (p6 + p7 + 256 * p7))) + ((p2 + p3 + 256 * (p3 + p4)) + 65536 * ((p4 + p5 + 256 * (p5 + p6)) + 65536 * (p6 + p7 + 256 * p7))) = (p0 + p1 + p2 + p3) + 256 * (p1 + p2 + p3 + p4) + 65536 * ((p2 + p3 + p4 + p5) + 256 * (p3 + p4 + p5 + p6) + 65536 * ((p4 + p5 + p6 + p7) + 256 * (p5 + p6 + p7) + 65536 * ((p6 + p7) + 256 * p7))) := by omega
theorem r1le {p1 p2 p3 p4 p5 p6 p7 : Nat} (q1 : p1 ≤ 8) (q2 : p2 ≤ 8) (q3 : p3 ≤ 8) (q4 : p4 ≤ 8) (q5 : p5 ≤ 8) (q6 : p6 ≤ 8) (q7 : p7 ≤ 8) : p1 + 256 * (p2 + 256 * (p3 + 256 * (p4 + 256 * (p5 + 256 * (p6 + 256 * p7))))) < 10000000000000000 := by omega
theorem b1le {a b c d : Nat} (ha : a ≤ 8) (hb : b ≤ 8) (hc : c ≤ 8) (hd : d ≤ 8) : a + b + 256 * (c + d) < 65536 := by omega
theorem r2le {a b c d e f g i j k l : Nat} (ha : a ≤ 8) (hb : b ≤ 8) (hc : c ≤ 8) (hd : d ≤ 8) (he : e ≤ 8) (hf : f ≤ 8) (hg : g ≤ 8) (hi : i ≤ 8) (hj : j ≤ 8) (hk : k ≤ 8) (hl : l ≤ 8) : (a + b + 256 * (c + d)) + 65536 * ((e + f + 256 * (g + i)) + 65536 * (j + k + 256 * l)) < 100000000000000 := by omega
theorem bcL_le (x : Int64) : ∃ n, n ≤ 64 ∧ bcL x = nI n := by
  have h := bl_3 x
  obtain ⟨p0, p1, p2, p3, p4, p5, p6, p7, q0, q1, q2, q3, q4, q5, q6, q7, e⟩ := spk_8 (tL x)
  rw [e] at h
  refine ⟨(p0 + p1 + p2 + p3) + (p4 + p5 + p6 + p7), Nat.add_le_add (s4le q0 q1 q2 q3) (s4le q4 q5 q6 q7), ?_⟩
  have h1 := bcL_a h q0 (r1le q1 q2 q3 q4 q5 q6 q7)
  rw [arr1] at h1
  have h2 := bcL_b h1 (b1le q0 q1 q1 q2) (r2le q2 q3 q3 q4 q4 q5 q5 q6 q6 q7 q7)
  rw [arr2] at h2
  exact bcL_fin h2 (s4le q0 q1 q2 q3) (s4le q1 q2 q3 q4) (s4le q2 q3 q4 q5) (s4le q3 q4 q5 q6) (s4le q4 q5 q6 q7) (s3le q5 q6 q7) (s2le q6 q7) q7
