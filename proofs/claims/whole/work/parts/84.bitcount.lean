/-! How many bits a number has: the library's way, and one by one. -/
set_option maxHeartbeats 400000 in
theorem zb_and (a b : Nat) : nI a &&& nI b = nI (a &&& b) := by
  apply Int32.toBitVec_inj.1
  show BitVec.ofNat 32 a &&& BitVec.ofNat 32 b = BitVec.ofNat 32 (a &&& b)
  apply BitVec.eq_of_getLsbD_eq
  intro i hi
  simp [hi]
set_option maxHeartbeats 400000 in
theorem zb_u : ∀ n, n < 32 → (((nI n).toUInt32 &&& Int32.toUInt32 31).toBitVec % 32).toNat = n := by decide +kernel
set_option maxHeartbeats 400000 in
theorem zb_l : ∀ n, n < 32 → ((nI n &&& 31).toBitVec.smod 32).toNat = n := by decide +kernel
set_option maxHeartbeats 400000 in
theorem zb_ush {k j : Nat} (hk : k < 4294967296) (hj : j < 32) : cUs (nI j) (nI k) = nI (k / 2 ^ j) := by
  unfold cUs
  apply Int32.toBitVec_inj.1
  show ((nI k).toUInt32 >>> ((nI j).toUInt32 &&& Int32.toUInt32 31)).toBitVec = BitVec.ofNat 32 (k / 2 ^ j)
  rw [UInt32.toBitVec_shiftRight]
  show (BitVec.ofNat 32 k >>> (((nI j).toUInt32 &&& Int32.toUInt32 31).toBitVec % 32).toNat) = _
  rw [zb_u j hj]
  apply BitVec.eq_of_toNat_eq
  rw [BitVec.toNat_ushiftRight, Nat.shiftRight_eq_div_pow, BitVec.toNat_ofNat, BitVec.toNat_ofNat, Nat.mod_eq_of_lt hk, Nat.mod_eq_of_lt (Nat.lt_of_le_of_lt (Nat.div_le_self _ _) hk)]
set_option maxHeartbeats 400000 in
theorem zb_sub {a b : Nat} (h : b ≤ a) : nI a - nI b = nI (a - b) := by
  have e : nI a = nI (a - b) + nI b := by rw [add_nI]; congr 1; omega
  rw [e]
  exact Int32.add_sub_cancel _ _
def sF1 (m x : Nat) : Nat := x - (x / 2 &&& m)
def sF2 (m x : Nat) : Nat := (x &&& m) + (x / 4 &&& m)
def sF3 (m x : Nat) : Nat := (x + x / 16) &&& m
def sP (r : Nat) : Nat := r % 2 + r / 2 % 2 + r / 4 % 2 + r / 8 % 2 + r / 16 % 2 + r / 32 % 2 + r / 64 % 2 + r / 128 % 2
set_option maxHeartbeats 400000 in
theorem zb_byte {a b r q : Nat} (hr : r < 256) (hq : q < 256) : (256 * a + r) &&& (256 * b + q) = 256 * (a &&& b) + (r &&& q) := by
  have h1 : ((256 * a + r) &&& (256 * b + q)) / 2 ^ 8 = a &&& b := by
    rw [Nat.and_div_two_pow]
    congr 1 <;> omega
  have h2 : ((256 * a + r) &&& (256 * b + q)) % 2 ^ 8 = r &&& q := by
    rw [Nat.and_mod_two_pow]
    congr 1 <;> omega
  have h3 := Nat.div_add_mod ((256 * a + r) &&& (256 * b + q)) (2 ^ 8)
  rw [h1, h2] at h3
  omega
set_option maxHeartbeats 400000 in
theorem zb_t1 : ∀ r, r < 256 → ∀ e, e < 2 → (128 * e + r / 2) &&& 85 = r / 2 &&& 85 := by decide +kernel
set_option maxHeartbeats 400000 in
theorem zb_t2 : ∀ r, r < 256 → ∀ e, e < 4 → (64 * e + r / 4) &&& 51 = r / 4 &&& 51 := by decide +kernel
set_option maxHeartbeats 400000 in
theorem zb_t3 : ∀ r, r < 69 → ∀ e, e < 5 → (16 * e + r + r / 16) &&& 15 = (r + r / 16) &&& 15 := by decide +kernel
set_option maxHeartbeats 400000 in
theorem zb_t4 : ∀ r, r < 256 → sF3 15 (sF2 51 (sF1 85 r)) = sP r ∧ sF1 85 r < 256 ∧ sF2 51 (sF1 85 r) < 69 ∧ sF2 51 (sF1 85 r) % 16 < 5 ∧ sP r < 9 := by decide +kernel
set_option maxHeartbeats 400000 in
theorem zb_f1 {m a r : Nat} (hr : r < 256) : sF1 (256 * m + 85) (256 * a + r) = 256 * sF1 m a + sF1 85 r := by
  unfold sF1
  have e : (256 * a + r) / 2 = 256 * (a / 2) + (128 * (a % 2) + r / 2) := by omega
  have hu : a / 2 &&& m ≤ a / 2 := Nat.and_le_left
  have hv : r / 2 &&& 85 ≤ r / 2 := Nat.and_le_left
  rw [e, zb_byte (by omega) (by omega), zb_t1 r hr _ (by omega)]
  omega
set_option maxHeartbeats 400000 in
theorem zb_f2 {m a r : Nat} (hr : r < 256) : sF2 (256 * m + 51) (256 * a + r) = 256 * sF2 m a + sF2 51 r := by
  unfold sF2
  have e : (256 * a + r) / 4 = 256 * (a / 4) + (64 * (a % 4) + r / 4) := by omega
  rw [e, zb_byte (by omega) (by omega), zb_byte (by omega) (by omega), zb_t2 r hr _ (by omega)]
  omega
set_option maxHeartbeats 400000 in
theorem zb_f3 {m a r : Nat} (hr : r < 69) (ha : a % 16 < 5) : sF3 (256 * m + 15) (256 * a + r) = 256 * sF3 m a + sF3 15 r := by
  unfold sF3
  have e : 256 * a + r + (256 * a + r) / 16 = 256 * (a + a / 16) + (16 * (a % 16) + r + r / 16) := by omega
  rw [e, zb_byte (by omega) (by omega), zb_t3 r hr _ ha]
set_option maxHeartbeats 400000 in
theorem zb_all {a b c e : Nat} (ha : a < 256) (hb : b < 256) (hc : c < 256) (he : e < 256) : sF3 252645135 (sF2 858993459 (sF1 1431655765 (256 * (256 * (256 * a + b) + c) + e))) = 256 * (256 * (256 * sP a + sP b) + sP c) + sP e := by
  obtain ⟨a1, a2, a3, a4, -⟩ := zb_t4 a ha
  obtain ⟨b1, b2, b3, b4, -⟩ := zb_t4 b hb
  obtain ⟨c1, c2, c3, c4, -⟩ := zb_t4 c hc
  obtain ⟨e1, e2, e3, e4, -⟩ := zb_t4 e he
  rw [show (1431655765 : Nat) = 256 * (256 * (256 * 85 + 85) + 85) + 85 from rfl, show (858993459 : Nat) = 256 * (256 * (256 * 51 + 51) + 51) + 51 from rfl, show (252645135 : Nat) = 256 * (256 * (256 * 15 + 15) + 15) + 15 from rfl]
  rw [zb_f1 he, zb_f1 hc, zb_f1 hb, zb_f2 e2, zb_f2 c2, zb_f2 b2, zb_f3 e3 (by omega), zb_f3 c3 (by omega), zb_f3 b3 a4, a1, b1, c1, e1]
def sN (n : Nat) : Nat → Nat
  | 0 => 0
  | j + 1 => sN n j + n / 2 ^ j % 2
set_option maxHeartbeats 400000 in
theorem sN_1 (n k : Nat) : sN n (k + 1) = sN n k + n / 2 ^ k % 2 := rfl
set_option maxHeartbeats 400000 in
theorem sN_8 {a r : Nat} : sN (256 * a + r) 8 = sP r := by
  have h0 : (256 * a + r) / 2 ^ 0 % 2 = r % 2 := by omega
  have h1 : (256 * a + r) / 2 ^ 1 % 2 = r / 2 % 2 := by omega
  have h2 : (256 * a + r) / 2 ^ 2 % 2 = r / 4 % 2 := by omega
  have h3 : (256 * a + r) / 2 ^ 3 % 2 = r / 8 % 2 := by omega
  have h4 : (256 * a + r) / 2 ^ 4 % 2 = r / 16 % 2 := by omega
  have h5 : (256 * a + r) / 2 ^ 5 % 2 = r / 32 % 2 := by omega
  have h6 : (256 * a + r) / 2 ^ 6 % 2 = r / 64 % 2 := by omega
  have h7 : (256 * a + r) / 2 ^ 7 % 2 = r / 128 % 2 := by omega
  generalize 256 * a + r = x at *
  have s0 := sN_1 x 0
  rw [h0] at s0
  have s1 := sN_1 x 1
  rw [h1] at s1
  have s2 := sN_1 x 2
  rw [h2] at s2
  have s3 := sN_1 x 3
  rw [h3] at s3
  have s4 := sN_1 x 4
  rw [h4] at s4
  have s5 := sN_1 x 5
  rw [h5] at s5
  have s6 := sN_1 x 6
  rw [h6] at s6
  have s7 := sN_1 x 7
  rw [h7] at s7
  have z0 : sN x 0 = 0 := rfl
  unfold sP
  generalize r % 2 = b0 at *
  generalize r / 2 % 2 = b1 at *
  generalize r / 4 % 2 = b2 at *
  generalize r / 8 % 2 = b3 at *
  generalize r / 16 % 2 = b4 at *
  generalize r / 32 % 2 = b5 at *
  generalize r / 64 % 2 = b6 at *
  generalize r / 128 % 2 = b7 at *
  have e1 : sN x (0 + 1) = sN x 1 := rfl
  have e2 : sN x (1 + 1) = sN x 2 := rfl
  have e3 : sN x (2 + 1) = sN x 3 := rfl
  have e4 : sN x (3 + 1) = sN x 4 := rfl
  have e5 : sN x (4 + 1) = sN x 5 := rfl
  have e6 : sN x (5 + 1) = sN x 6 := rfl
  have e7 : sN x (6 + 1) = sN x 7 := rfl
  have e8 : sN x (7 + 1) = sN x 8 := rfl
  omega
set_option maxHeartbeats 400000 in
theorem sN_s {a r : Nat} (hr : r < 256) : ∀ k, sN (256 * a + r) (8 + k) = sP r + sN a k
  | 0 => sN_8
  | k + 1 => by
    show sN (256 * a + r) (8 + k) + (256 * a + r) / 2 ^ (8 + k) % 2 = sP r + (sN a k + a / 2 ^ k % 2)
    have e : (256 * a + r) / 2 ^ (8 + k) = a / 2 ^ k := by
      rw [Nat.pow_add, ← Nat.div_div_eq_div_mul]
      congr 1
      omega
    rw [sN_s hr k, e]
    omega
set_option maxHeartbeats 400000 in
theorem sN_le (n : Nat) : ∀ k, sN n k ≤ k
  | 0 => Nat.le_refl _
  | k + 1 => by
    have := sN_le n k
    show sN n k + n / 2 ^ k % 2 ≤ k + 1
    omega
set_option maxHeartbeats 400000 in
theorem zb_fin {w a b c e : Nat} (hw : w = 16777216 * a + 65536 * b + 256 * c + e) (ha : a < 9) (hb : b < 9) (hc : c < 9) (he : e < 9) : (w + w / 256 + (w + w / 256) / 65536) % 64 = a + b + c + e := by
  have h1 : w / 256 = 65536 * a + 256 * b + c := by omega
  have h2 : (w + w / 256) / 65536 = 257 * a + b := by rw [h1, hw]; omega
  rw [h2, h1, hw]
  omega
set_option maxHeartbeats 400000 in
theorem zb_cnt {n : Nat} (hn : n < 4294967296) : cBc (nI n) = nI (sN n 32) := by
  obtain ⟨a, b, c, e, ha, hb, hc, he, rfl⟩ : ∃ a b c e, a < 256 ∧ b < 256 ∧ c < 256 ∧ e < 256 ∧ n = 256 * (256 * (256 * a + b) + c) + e := ⟨n / 16777216, n / 65536 % 256, n / 256 % 256, n % 256, by omega, by omega, by omega, by omega, by omega⟩
  have hall := zb_all ha hb hc he
  have hsum : sN (256 * (256 * (256 * a + b) + c) + e) 32 = sP e + (sP c + (sP b + sP a)) := by
    rw [show (32 : Nat) = 8 + (8 + (8 + (8 + 0))) from rfl, sN_s he, sN_s hc, sN_s hb]
    have k : sN (256 * 0 + a) (8 + 0) = sP a + sN 0 0 := sN_s ha 0
    have k2 : sN (256 * 0 + a) (8 + 0) = sN a (8 + 0) := by rw [Nat.mul_zero, Nat.zero_add]
    have k3 : sN 0 0 = 0 := rfl
    rw [← k2, k, k3, Nat.add_zero]
  rw [hsum]
  have pa := (zb_t4 a ha).2.2.2.2
  have pb := (zb_t4 b hb).2.2.2.2
  have pc := (zb_t4 c hc).2.2.2.2
  have pe := (zb_t4 e he).2.2.2.2
  generalize hN : 256 * (256 * (256 * a + b) + c) + e = n at *
  have hu1 : n / 2 &&& 1431655765 ≤ n / 2 := Nat.and_le_left
  unfold cBc
  have e1 : cB1 (nI n) = nI (sF1 1431655765 n) := by
    unfold cB1 sF1
    have q1 : cUs 1 (nI n) = nI (n / 2) := by
      have := zb_ush (j := 1) hn (by omega)
      rw [Nat.pow_one] at this
      exact this
    rw [q1, show nI 1431655765 = nI 1431655765 from rfl, zb_and, zb_sub (Nat.le_trans hu1 (Nat.div_le_self _ _))]
  have l1 : sF1 1431655765 n < 4294967296 := Nat.lt_of_le_of_lt (Nat.sub_le _ _) hn
  rw [e1]
  clear e1
  generalize sF1 1431655765 n = x1 at *
  have e2 : cB2 (nI x1) = nI (sF2 858993459 x1) := by
    unfold cB2 sF2
    have q1 : cUs 2 (nI x1) = nI (x1 / 4) := by
      have := zb_ush (j := 2) l1 (by omega)
      rw [show (2 : Nat) ^ 2 = 4 from rfl] at this
      exact this
    rw [q1, zb_and, zb_and, add_nI]
  have l2 : sF2 858993459 x1 < 4294967296 := by
    unfold sF2
    have g1 : x1 &&& 858993459 ≤ 858993459 := Nat.and_le_right
    have g2 : x1 / 4 &&& 858993459 ≤ 858993459 := Nat.and_le_right
    omega
  rw [e2]
  clear e2
  generalize sF2 858993459 x1 = x2 at *
  have e3 : cB3 (nI x2) = nI (sF3 252645135 x2) := by
    unfold cB3 sF3
    have q1 : cUs 4 (nI x2) = nI (x2 / 16) := by
      have := zb_ush (j := 4) l2 (by omega)
      rw [show (2 : Nat) ^ 4 = 16 from rfl] at this
      exact this
    rw [q1, add_nI, zb_and]
  rw [e3, hall]
  generalize hw : 256 * (256 * (256 * sP a + sP b) + sP c) + sP e = w at *
  have l3 : w < 4294967296 := by omega
  have e4 : cB4 (nI w) = nI (w + w / 256) := by
    unfold cB4
    have q1 : cUs 8 (nI w) = nI (w / 256) := by
      have := zb_ush (j := 8) l3 (by omega)
      rw [show (2 : Nat) ^ 8 = 256 from rfl] at this
      exact this
    rw [q1, add_nI]
  have l4 : w + w / 256 < 4294967296 := by omega
  rw [e4]
  have e5 : cB5 (nI (w + w / 256)) = nI (w + w / 256 + (w + w / 256) / 65536) := by
    unfold cB5
    have q1 : cUs 16 (nI (w + w / 256)) = nI ((w + w / 256) / 65536) := by
      have := zb_ush (j := 16) l4 (by omega)
      rw [show (2 : Nat) ^ 16 = 65536 from rfl] at this
      exact this
    rw [q1, add_nI]
  rw [e5, show (63 : Int32) = nI (2 ^ 6 - 1) from rfl, zb_and, Nat.and_two_pow_sub_one_eq_mod]
  congr 1
  have hf := zb_fin (w := w) (by omega) pa pb pc pe
  rw [show (2 : Nat) ^ 6 = 64 from rfl, hf]
  omega
set_option maxHeartbeats 400000 in
/-- one bit of a number that isn't below 0 -/
theorem zb_has {n : Nat} (hn : n < 2147483648) {j : Nat} (hj : j < 31) : mHas (nI n) (nI j) = (n / 2 ^ j % 2 = 1) := by
  unfold mHas
  have e : nI n >>> (nI j &&& 31) = nI (n / 2 ^ j) := by
    apply Int32.toBitVec_inj.1
    rw [Int32.toBitVec_shiftRight]
    show ((BitVec.ofNat 32 n).sshiftRight ((nI j &&& 31).toBitVec.smod 32).toNat) = BitVec.ofNat 32 (n / 2 ^ j)
    rw [zb_l j (by omega)]
    have hm : (BitVec.ofNat 32 n).msb = false := by
      rw [BitVec.msb_eq_decide, BitVec.toNat_ofNat]
      simp
      omega
    rw [BitVec.sshiftRight_eq_of_msb_false hm]
    apply BitVec.eq_of_toNat_eq
    rw [BitVec.toNat_ushiftRight, Nat.shiftRight_eq_div_pow, BitVec.toNat_ofNat, BitVec.toNat_ofNat, Nat.mod_eq_of_lt (by omega), Nat.mod_eq_of_lt (Nat.lt_of_le_of_lt (Nat.div_le_self _ _) (by omega))]
  rw [e, show (1 : Int32) = nI (2 ^ 1 - 1) from rfl, zb_and, Nat.and_two_pow_sub_one_eq_mod, show nI (2 ^ 1 - 1) = nI 1 from rfl, eq_nI (by omega) (by omega)]
set_option maxHeartbeats 400000 in
theorem zb_sn {n : Nat} (hn : n < 2147483648) : ∀ k, k ≤ 31 → mSn (nI n) k = nI (sN n k)
  | 0, _ => rfl
  | k + 1, h => by
    show mSn (nI n) k + (if mHas (nI n) (nI k) then 1 else 0) = nI (sN n k + n / 2 ^ k % 2)
    rw [zb_sn hn k (by omega)]
    by_cases c : n / 2 ^ k % 2 = 1
    · rw [if_pos (by rw [zb_has hn (by omega)]; exact c), c]
      exact nI1
    · rw [if_neg (by rw [zb_has hn (by omega)]; exact c), show n / 2 ^ k % 2 = 0 by omega]
      exact Int32.add_zero _
set_option maxHeartbeats 400000 in
/-- a number that isn't below 0, as a whole number -/
theorem zb_of {s : Int32} (h : 0 ≤ s) : ∃ n, n < 2147483648 ∧ s = nI n := by
  have h1 := Int32.le_iff_toInt_le.mp h
  have h0 : (0 : Int32).toInt = 0 := rfl
  rw [h0] at h1
  have h2 := s.toInt_lt
  refine ⟨s.toInt.toNat, by omega, ?_⟩
  apply Int32.toInt_inj.mp
  rw [nI_toInt (by omega)]
  omega
set_option maxHeartbeats 400000 in
theorem zb_31 {n : Nat} (hn : n < 2147483648) : sN n 32 = sN n 31 := by
  show sN n 31 + n / 2 ^ 31 % 2 = sN n 31
  have h0 : n / 2 ^ 31 = 0 := Nat.div_eq_of_lt hn
  rw [h0]
  omega
set_option maxHeartbeats 400000 in
/-- a bit as the class asks for it -/
theorem zb_one {n : Nat} {j : Nat} (hj : j < 31) : (nI n &&& 1 <<< (nI j &&& 31) = 0) = ¬ (n / 2 ^ j % 2 = 1) := by
  have e : (1 : Int32) <<< (nI j &&& 31) = nI (2 ^ j) := (by decide +kernel : ∀ j, j < 31 → (1 : Int32) <<< (nI j &&& 31) = nI (2 ^ j)) j hj
  rw [e, zb_and]
  have hb : (n &&& 2 ^ j) = n / 2 ^ j % 2 * 2 ^ j := by
    have hb1 : (n &&& 2 ^ j) = if n / 2 ^ j % 2 = 1 then 2 ^ j else 0 := by
      apply Nat.eq_of_testBit_eq
      intro i
      rw [Nat.testBit_and, Nat.testBit_two_pow]
      by_cases q : j = i
      · subst q
        rw [decide_eq_true rfl, Bool.and_true, Nat.testBit_eq_decide_div_mod_eq]
        by_cases q2 : n / 2 ^ j % 2 = 1
        · rw [if_pos q2, decide_eq_true q2, Nat.testBit_two_pow, decide_eq_true rfl]
        · rw [if_neg q2, decide_eq_false q2, Nat.zero_testBit]
      · rw [decide_eq_false q, Bool.and_false]
        split
        · rw [Nat.testBit_two_pow, decide_eq_false q]
        · rw [Nat.zero_testBit]
    rw [hb1]
    by_cases q2 : n / 2 ^ j % 2 = 1
    · rw [if_pos q2, q2, Nat.one_mul]
    · rw [if_neg q2, show n / 2 ^ j % 2 = 0 by omega, Nat.zero_mul]
  rw [hb]
  have hp : 2 ^ j < 2147483648 := Nat.pow_lt_pow_right (by omega) hj
  have hp2 : 0 < 2 ^ j := Nat.two_pow_pos j
  rcases (show n / 2 ^ j % 2 = 0 ∨ n / 2 ^ j % 2 = 1 by omega) with c | c
  · rw [c, Nat.zero_mul]
    simp
    rfl
  · rw [c, Nat.one_mul]
    refine propext ⟨fun z => ?_, fun z => absurd rfl z⟩
    exfalso
    have z2 := congrArg Int32.toInt z
    rw [nI_toInt (by omega)] at z2
    have h0 : (0 : Int32).toInt = 0 := rfl
    rw [h0] at z2
    omega
