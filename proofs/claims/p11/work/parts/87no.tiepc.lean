/-! ===== bitCount ===== -/
def rep (c : Nat) : Nat → Nat
  | 0 => 0
  | k + 1 => c + 256 * rep c k
def sp1 (k n : Nat) : Nat := n - ((n / 2) &&& rep 85 k)
def sp2 (k n : Nat) : Nat := (n &&& rep 51 k) + ((n / 4) &&& rep 51 k)
def sp3 (k n : Nat) : Nat := (n + n / 16) &&& rep 15 k
def pop8 (b : Nat) : Nat := sp3 1 (sp2 1 (sp1 1 b))
theorem sp1_m : (List.range 256).all (fun b => (List.range 2).all (fun x => decide ((b / 2 + 128 * x) &&& 85 = (b / 2) &&& 85))) = true := by decide +kernel
theorem sp2_m : (List.range 256).all (fun b => (List.range 4).all (fun x => decide ((b / 4 + 64 * x) &&& 51 = (b / 4) &&& 51))) = true := by decide +kernel
theorem sp3_m : (List.range 69).all (fun b => (List.range 5).all (fun x => decide ((b + b / 16 + 16 * x) &&& 15 = (b + b / 16) &&& 15))) = true := by decide +kernel
theorem sp_le : (List.range 256).all (fun b => decide (sp1 1 b < 256) && decide (sp2 1 (sp1 1 b) < 69) && decide (sp2 1 (sp1 1 b) % 16 ≤ 4) && decide (pop8 b ≤ 8) && decide (pop8 b = cnt (fun e => b.testBit e) 8)) = true := by decide +kernel
theorem rep1 (c : Nat) : rep c 1 = c := by show c + 256 * 0 = c; omega
theorem all_rr {n m : Nat} {f : Nat → Nat → Bool} (h : (List.range n).all (fun a => (List.range m).all (fun b => f a b)) = true) {i j : Nat} (hi : i < n) (hj : j < m) : f i j = true := List.all_eq_true.mp (List.all_eq_true.mp h i (List.mem_range.mpr hi)) j (List.mem_range.mpr hj)
theorem sp1_b {b r k : Nat} (hb : b < 256) : sp1 (k + 1) (b + 256 * r) = sp1 1 b + 256 * sp1 k r := by
  have e : (b + 256 * r) / 2 = (b / 2 + 128 * (r % 2)) + 256 * (r / 2) := by omega
  have h1 := of_decide_eq_true (all_rr sp1_m hb (show r % 2 < 2 by omega))
  unfold sp1
  rw [e, show rep 85 (k + 1) = 85 + 256 * rep 85 k from rfl, land8 (by omega) (by omega), h1, rep1]
  have h2 : (b / 2) &&& 85 ≤ b / 2 := Nat.and_le_left
  have h3 : (r / 2) &&& rep 85 k ≤ r / 2 := Nat.and_le_left
  omega
theorem sp2_b {b r k : Nat} (hb : b < 256) : sp2 (k + 1) (b + 256 * r) = sp2 1 b + 256 * sp2 k r := by
  have e : (b + 256 * r) / 4 = (b / 4 + 64 * (r % 4)) + 256 * (r / 4) := by omega
  have h1 := of_decide_eq_true (all_rr sp2_m hb (show r % 4 < 4 by omega))
  unfold sp2
  rw [e, show rep 51 (k + 1) = 51 + 256 * rep 51 k from rfl, land8 hb (by omega), land8 (a := b / 4 + 64 * (r % 4)) (by omega) (by omega), h1, rep1]
  omega
theorem sp3_b {b r k : Nat} (hb : b < 69) (hr : r % 16 ≤ 4) : sp3 (k + 1) (b + 256 * r) = sp3 1 b + 256 * sp3 k r := by
  have e : b + 256 * r + (b + 256 * r) / 16 = (b + b / 16 + 16 * (r % 16)) + 256 * (r + r / 16) := by omega
  have h1 := of_decide_eq_true (all_rr sp3_m hb (show r % 16 < 5 by omega))
  unfold sp3
  rw [e, show rep 15 (k + 1) = 15 + 256 * rep 15 k from rfl, land8 (by omega) (by omega), h1, rep1]
def spk (k n : Nat) : Nat := sp3 k (sp2 k (sp1 k n))
theorem sp_all {b : Nat} (hb : b < 256) : sp1 1 b < 256 ∧ sp2 1 (sp1 1 b) < 69 ∧ sp2 1 (sp1 1 b) % 16 ≤ 4 ∧ pop8 b ≤ 8 ∧ pop8 b = cnt (fun e => b.testBit e) 8 := by
  have h := Bool.and_eq_true_iff.mp (all_r2 sp_le hb)
  have h1 := Bool.and_eq_true_iff.mp h.1
  have h2 := Bool.and_eq_true_iff.mp h1.1
  have h3 := Bool.and_eq_true_iff.mp h2.1
  exact ⟨of_decide_eq_true h3.1, of_decide_eq_true h3.2, of_decide_eq_true h2.2, of_decide_eq_true h1.2, of_decide_eq_true h.2⟩
theorem sp_nib (k n : Nat) : sp2 k (sp1 k n) % 16 ≤ 4 := by
  cases k with
  | zero =>
    unfold sp2
    rw [show rep 51 0 = 0 from rfl, Nat.and_zero, Nat.and_zero]
    omega
  | succ k =>
    have hb : n % 256 < 256 := Nat.mod_lt _ (by omega)
    rw [show n = n % 256 + 256 * (n / 256) by omega, sp1_b hb, sp2_b (sp_all hb).1]
    have := (sp_all hb).2.2.1
    omega
theorem spk_s {b r k : Nat} (hb : b < 256) : spk (k + 1) (b + 256 * r) = pop8 b + 256 * spk k r := by
  unfold spk
  rw [sp1_b hb, sp2_b (sp_all hb).1, sp3_b (sp_all hb).2.1 (sp_nib k r)]
  rfl
theorem spk_0 (n : Nat) : spk 0 n = 0 := by unfold spk sp3; rw [show rep 15 0 = 0 from rfl, Nat.and_zero]
/-- the sum of the bytes' counts -/
def popk : Nat → Nat → Nat
  | 0, _ => 0
  | k + 1, n => pop8 (n % 256) + popk k (n / 256)
theorem spk_4 (n : Nat) : spk 4 n = pop8 (n % 256) + 256 * (pop8 (n / 256 % 256) + 256 * (pop8 (n / 256 / 256 % 256) + 256 * pop8 (n / 256 / 256 / 256 % 256))) := by
  have hm : ∀ x, x % 256 < 256 := fun x => Nat.mod_lt _ (by omega)
  have hs : ∀ k x, spk (k + 1) x = pop8 (x % 256) + 256 * spk k (x / 256) := fun k x => by
    rw [← spk_s (hm x), show x % 256 + 256 * (x / 256) = x by omega]
  rw [hs, hs, hs, hs, spk_0, Nat.mul_zero, Nat.add_zero]
theorem spk_8 (n : Nat) : ∃ p0 p1 p2 p3 p4 p5 p6 p7, p0 ≤ 8 ∧ p1 ≤ 8 ∧ p2 ≤ 8 ∧ p3 ≤ 8 ∧ p4 ≤ 8 ∧ p5 ≤ 8 ∧ p6 ≤ 8 ∧ p7 ≤ 8 ∧ spk 8 n = p0 + 256 * (p1 + 256 * (p2 + 256 * (p3 + 256 * (p4 + 256 * (p5 + 256 * (p6 + 256 * p7)))))) := by
  have hm : ∀ x, x % 256 < 256 := fun x => Nat.mod_lt _ (by omega)
  have hs : ∀ k x, spk (k + 1) x = pop8 (x % 256) + 256 * spk k (x / 256) := fun k x => by
    rw [← spk_s (hm x), show x % 256 + 256 * (x / 256) = x by omega]
  refine ⟨pop8 (n % 256), pop8 (n / 256 % 256), pop8 (n / 256 / 256 % 256), pop8 (n / 256 / 256 / 256 % 256), pop8 (n / 256 / 256 / 256 / 256 % 256), pop8 (n / 256 / 256 / 256 / 256 / 256 % 256), pop8 (n / 256 / 256 / 256 / 256 / 256 / 256 % 256), pop8 (n / 256 / 256 / 256 / 256 / 256 / 256 / 256 % 256), (sp_all (hm _)).2.2.2.1, (sp_all (hm _)).2.2.2.1, (sp_all (hm _)).2.2.2.1, (sp_all (hm _)).2.2.2.1, (sp_all (hm _)).2.2.2.1, (sp_all (hm _)).2.2.2.1, (sp_all (hm _)).2.2.2.1, (sp_all (hm _)).2.2.2.1, ?_⟩
  rw [hs, hs, hs, hs, hs, hs, hs, hs, spk_0, Nat.mul_zero, Nat.add_zero]
def tN (x : Int32) : Nat := x.toBitVec.toNat
theorem tN_lt (x : Int32) : tN x < 4294967296 := x.toBitVec.isLt
theorem tN_and (x y : Int32) : tN (x &&& y) = tN x &&& tN y := by unfold tN; rw [Int32.toBitVec_and, BitVec.toNat_and]
theorem tN_add {x y : Int32} (h : tN x + tN y < 4294967296) : tN (x + y) = tN x + tN y := by
  unfold tN at h ⊢
  rw [Int32.toBitVec_add, BitVec.toNat_add]
  exact Nat.mod_eq_of_lt h
theorem tN_sub {x y : Int32} (h : tN y ≤ tN x) : tN (x - y) = tN x - tN y := by
  have hx := tN_lt x
  have hy := tN_lt y
  unfold tN at h hx hy ⊢
  rw [Int32.toBitVec_sub, BitVec.toNat_sub]
  rw [show (2 : Nat) ^ 32 = 4294967296 from rfl]
  omega
theorem tN_u (x : Int32) {k : Nat} (hk : k < 32) : tN (uI x (nI k)) = tN x / 2 ^ k := by
  refine Nat.eq_of_testBit_eq (fun j => ?_)
  rw [Nat.testBit_div_two_pow]
  have h := b_ushr k hk x j
  rw [show tN x = x.toBitVec.toNat from rfl, show j + k = k + j by omega]
  exact h
theorem tN_eq {x : Int32} {n : Nat} (h : tN x = n) (hn : n < 2147483648) : x = nI n := by
  refine b_ext (fun i hi => ?_)
  rw [nI_bt hi, ← h]; rfl
theorem bc_3 (x : Int32) : tN (bc3 (bc2 (bc1 x))) = spk 4 (tN x) := by
  have hx := tN_lt x
  have e1 : tN (bc1 x) = sp1 4 (tN x) := by
    unfold bc1 sp1
    have h1 : tN (uI x 1 &&& 1431655765) = (tN x / 2) &&& rep 85 4 := by rw [tN_and, show uI x 1 = uI x (nI 1) from rfl, tN_u x (by omega)]; rfl
    have h2 : (tN x / 2) &&& rep 85 4 ≤ tN x / 2 := Nat.and_le_left
    rw [tN_sub (by rw [h1]; omega), h1]
  have hm : rep 51 4 = 858993459 := rfl
  have e2 : tN (bc2 (bc1 x)) = sp2 4 (sp1 4 (tN x)) := by
    unfold bc2 sp2
    have h1 : tN (uI (bc1 x) 2 &&& 858993459) = (tN (bc1 x) / 4) &&& rep 51 4 := by rw [tN_and, show uI (bc1 x) 2 = uI (bc1 x) (nI 2) from rfl, tN_u _ (by omega)]; rfl
    have h2 : tN (bc1 x &&& 858993459) = tN (bc1 x) &&& rep 51 4 := by rw [tN_and]; rfl
    have h3 : (tN (bc1 x) / 4) &&& rep 51 4 ≤ rep 51 4 := Nat.and_le_right
    have h4 : tN (bc1 x) &&& rep 51 4 ≤ rep 51 4 := Nat.and_le_right
    rw [tN_add (by rw [h1, h2]; omega), h1, h2, e1]
  have e3 : sp2 4 (sp1 4 (tN x)) ≤ 1717986918 := by
    unfold sp2
    have h3 : (sp1 4 (tN x) / 4) &&& rep 51 4 ≤ rep 51 4 := Nat.and_le_right
    have h4 : sp1 4 (tN x) &&& rep 51 4 ≤ rep 51 4 := Nat.and_le_right
    omega
  unfold bc3 spk sp3
  have h1 : tN (uI (bc2 (bc1 x)) 4) = sp2 4 (sp1 4 (tN x)) / 16 := by rw [show uI (bc2 (bc1 x)) 4 = uI (bc2 (bc1 x)) (nI 4) from rfl, tN_u _ (by omega), e2]
  rw [tN_and, tN_add (by rw [h1, e2]; omega), h1, e2]
  rfl
theorem bcI_pop (x : Int32) : bcI x = nI (popk 4 (tN x)) := by
  have h := bc_3 x
  rw [spk_4] at h
  have hm : ∀ y, y % 256 < 256 := fun y => Nat.mod_lt _ (by omega)
  have q0 := (sp_all (hm (tN x))).2.2.2.1
  have q1 := (sp_all (hm (tN x / 256))).2.2.2.1
  have q2 := (sp_all (hm (tN x / 256 / 256))).2.2.2.1
  have q3 := (sp_all (hm (tN x / 256 / 256 / 256))).2.2.2.1
  have hp : popk 4 (tN x) = pop8 (tN x % 256) + (pop8 (tN x / 256 % 256) + (pop8 (tN x / 256 / 256 % 256) + (pop8 (tN x / 256 / 256 / 256 % 256) + 0))) := rfl
  rw [hp]
  generalize pop8 (tN x % 256) = p0 at *
  generalize pop8 (tN x / 256 % 256) = p1 at *
  generalize pop8 (tN x / 256 / 256 % 256) = p2 at *
  generalize pop8 (tN x / 256 / 256 / 256 % 256) = p3 at *
  unfold bcI
  generalize bc3 (bc2 (bc1 x)) = y at h
  have a1 : tN (uI y 8) = tN y / 256 := by rw [show uI y 8 = uI y (nI 8) from rfl, tN_u _ (by omega)]
  have a2 : tN (bc4 y) = tN y + tN y / 256 := by unfold bc4; rw [tN_add (by rw [a1]; omega), a1]
  have a3 : tN (uI (bc4 y) 16) = tN (bc4 y) / 65536 := by rw [show uI (bc4 y) 16 = uI (bc4 y) (nI 16) from rfl, tN_u _ (by omega)]
  have a4 : tN (bc5 (bc4 y)) = tN (bc4 y) + tN (bc4 y) / 65536 := by unfold bc5; rw [tN_add (by rw [a3]; omega), a3]
  refine tN_eq ?_ (by omega)
  have d1 : (p0 + 256 * (p1 + 256 * (p2 + 256 * p3))) / 256 = p1 + 256 * (p2 + 256 * p3) := by omega
  have d2 : (p0 + 256 * (p1 + 256 * (p2 + 256 * p3)) + (p1 + 256 * (p2 + 256 * p3))) / 65536 = p2 + p3 + 256 * p3 := by omega
  rw [tN_and, show tN 63 = 2 ^ 6 - 1 from rfl, Nat.and_two_pow_sub_one_eq_mod, a4, a2, h, d1, d2]
  clear a1 a2 a3 a4 d1 d2 h
  omega
theorem cnt_split (P : Nat → Bool) (a b : Nat) : cnt P (a + b) = cnt P a + cnt (fun e => P (a + e)) b := by
  induction b with
  | zero => rfl
  | succ b ih =>
    rw [show a + (b + 1) = a + b + 1 by omega, cnt_s, cnt_s, ih]
    split <;> omega
theorem cnt_cong {P Q : Nat → Bool} (n : Nat) (h : ∀ e, e < n → P e = Q e) : cnt P n = cnt Q n := by
  induction n with
  | zero => rfl
  | succ n ih => rw [cnt_s, cnt_s, ih (fun e he => h e (by omega)), h n (by omega)]
theorem pop8_c (n : Nat) : pop8 (n % 256) = cnt (fun e => n.testBit e) 8 := by
  rw [(sp_all (Nat.mod_lt n (by omega))).2.2.2.2]
  refine cnt_cong 8 (fun e he => ?_)
  rw [show (256 : Nat) = 2 ^ 8 from rfl, Nat.testBit_mod_two_pow, decide_eq_true he, Bool.true_and]
theorem tb_div (n : Nat) : (fun e => (n / 256).testBit e) = fun e => n.testBit (8 + e) := by
  funext e
  rw [show (256 : Nat) = 2 ^ 8 from rfl, Nat.testBit_div_two_pow, Nat.add_comm]
theorem popk_c (n : Nat) : popk 4 n = cnt (fun e => n.testBit e) 32 := by
  show pop8 (n % 256) + (pop8 (n / 256 % 256) + (pop8 (n / 256 / 256 % 256) + (pop8 (n / 256 / 256 / 256 % 256) + 0))) = _
  rw [pop8_c, pop8_c, pop8_c, pop8_c, cnt_split _ 8 24, cnt_split _ 8 16, cnt_split _ 8 8]
  rw [tb_div n, show (fun e => (n / 256 / 256).testBit e) = fun e => n.testBit (8 + (8 + e)) by rw [tb_div (n / 256)]; funext e; exact congrFun (tb_div n) (8 + e), show (fun e => (n / 256 / 256 / 256).testBit e) = fun e => n.testBit (8 + (8 + (8 + e))) by rw [tb_div (n / 256 / 256)]; funext e; have := congrFun (tb_div (n / 256)) (8 + e); have h2 := congrFun (tb_div n) (8 + (8 + e)); exact this.trans h2]
  omega
theorem bcI_cnt (x : Int32) : bcI x = nI (cnt (bt x) 32) := by rw [bcI_pop, popk_c]; rfl
