/-! Code as a number: its instructions read off that number; the tables' rows by it (made by p_dec.py). -/
def dcB (n k : Nat) : Nat := (n / 256 ^ k) % 256
def dcD : List UInt8 → Nat → Bool
  | [], _ => true
  | b :: bs, n => Nat.beq b.toNat (n % 256) && dcD bs (n / 256)
theorem dcD_at : ∀ {bs : List UInt8} {n : Nat}, dcD bs n = true → ∀ k, (h : k < bs.length) → bs[k].toNat = dcB n k := by
  intro bs
  induction bs with
  | nil => intro n _ k h; exact absurd h (Nat.not_lt_zero k)
  | cons b bs ih =>
    intro n hd k h
    rw [dcD, Bool.and_eq_true] at hd
    cases k with
    | zero =>
      show b.toNat = (n / 256 ^ 0) % 256
      rw [Nat.pow_zero, Nat.div_one]
      exact Nat.eq_of_beq_eq_true hd.1
    | succ k =>
      have h2 := ih hd.2 k (Nat.lt_of_succ_lt_succ h)
      show (bs[k]'(Nat.lt_of_succ_lt_succ h)).toNat = (n / 256 ^ (k + 1)) % 256
      rw [h2, dcB, Nat.div_div_eq_div_mul, Nat.pow_succ, Nat.mul_comm 256]
/-- the first N bytes of the code are those of f -/
def dcOk (code : ByteArray) (f : Nat → Nat) (N : Nat) : Prop := ∀ k, k < N → ∃ h : k < code.size, code[k].toNat = f k
def dcC (code : ByteArray) (n N : Nat) : Bool := Nat.beq code.data.toList.length N && dcD code.data.toList n
theorem dcC_ok {code : ByteArray} {n N : Nat} (h : dcC code n N = true) : dcOk code (dcB n) N := fun k hk => by
  unfold dcC at h
  rw [Bool.and_eq_true] at h
  have hl : k < code.data.toList.length := by rw [Nat.eq_of_beq_eq_true h.1]; exact hk
  exact ⟨hl, dcD_at h.2 k hl⟩
section DC
variable {code : ByteArray} {f : Nat → Nat} {N : Nat}
theorem dc_bind {α β : Type} (x : Decoder α) (g : α → Decoder β) (code : ByteArray) (p : Nat) (a : α) (q : Nat) (h : Reader.runAt x code p = .ok (a, q)) : Reader.runAt (x >>= g) code p = Reader.runAt (g a) code q := by
  show Except.bind (x code p) (fun r => g r.1 code r.2) = g a code q
  rw [show x code p = Except.ok (a, q) from h]
  rfl
theorem dc_u1 (H : dcOk code f N) {p : Nat} (hp : p < N) : Reader.runAt (Reader.u1 : Decoder Nat) code p = .ok (f p, p + 1) := by
  obtain ⟨h, e⟩ := H p hp
  show (dite (p < code.size) (fun h => (do set (p + 1); pure code[p].toNat : Decoder Nat)) (fun _ => throw (HasTruncated.truncated p))) code p = _
  rw [dif_pos h, ← e]
  rfl
theorem dc_u2 (H : dcOk code f N) {p : Nat} (hp : p + 1 < N) : Reader.runAt (Reader.u2 : Decoder Nat) code p = .ok (f p * 256 + f (p + 1), p + 2) :=
  (dc_bind Reader.u1 _ code p _ _ (dc_u1 H (by omega))).trans ((dc_bind Reader.u1 _ code (p + 1) _ _ (dc_u1 H hp)).trans rfl)
theorem dc_s1 (H : dcOk code f N) {p : Nat} (hp : p < N) : Reader.runAt (Reader.s1 : Decoder Int) code p = .ok (Reader.signed 8 (f p), p + 1) := by
  show Except.map _ ((Reader.u1 : Decoder Nat) code p) = _
  rw [show (Reader.u1 : Decoder Nat) code p = _ from dc_u1 H hp]
  rfl
theorem dc_s2 (H : dcOk code f N) {p : Nat} (hp : p + 1 < N) : Reader.runAt (Reader.s2 : Decoder Int) code p = .ok (Reader.signed 16 (f p * 256 + f (p + 1)), p + 2) := by
  show Except.map _ ((Reader.u2 : Decoder Nat) code p) = _
  rw [show (Reader.u2 : Decoder Nat) code p = _ from dc_u2 H hp]
  rfl
theorem dc_of {i : Instr} {pc q k : Nat} (h : Reader.runAt (Decoder.instr pc) code pc = .ok (i, q)) (hq : q - pc = k) : decode code pc = .ok (i, k) := by
  unfold decode
  rw [h, ← hq]
  rfl
/-- the instructions of the class, the reference and the law, but the rarest -/
def dcF (f : Nat → Nat) (pc : Nat) : Option (Instr × Nat) := match f pc with
  | 1 => some (.aconst_null, 1)
  | 2 => some (.iconst (-1), 1)
  | 3 => some (.iconst 0, 1)
  | 4 => some (.iconst 1, 1)
  | 5 => some (.iconst 2, 1)
  | 6 => some (.iconst 3, 1)
  | 7 => some (.iconst 4, 1)
  | 8 => some (.iconst 5, 1)
  | 9 => some (.lconst 0, 1)
  | 10 => some (.lconst 1, 1)
  | 16 => some (.bipush (Reader.signed 8 (f (pc + 1))), 2)
  | 17 => some (.sipush (Reader.signed 16 (f (pc + 1) * 256 + f (pc + 2))), 3)
  | 18 => some (.ldc (f (pc + 1)), 2)
  | 19 => some (.ldc_w (f (pc + 1) * 256 + f (pc + 2)), 3)
  | 21 => some (.iload (f (pc + 1)), 2)
  | 25 => some (.aload (f (pc + 1)), 2)
  | 26 => some (.iload_n 0, 1)
  | 27 => some (.iload_n 1, 1)
  | 28 => some (.iload_n 2, 1)
  | 29 => some (.iload_n 3, 1)
  | 42 => some (.aload_n 0, 1)
  | 43 => some (.aload_n 1, 1)
  | 44 => some (.aload_n 2, 1)
  | 45 => some (.aload_n 3, 1)
  | 46 => some (.iaload, 1)
  | 47 => some (.laload, 1)
  | 50 => some (.aaload, 1)
  | 51 => some (.baload, 1)
  | 54 => some (.istore (f (pc + 1)), 2)
  | 58 => some (.astore (f (pc + 1)), 2)
  | 59 => some (.istore_n 0, 1)
  | 60 => some (.istore_n 1, 1)
  | 61 => some (.istore_n 2, 1)
  | 62 => some (.istore_n 3, 1)
  | 75 => some (.astore_n 0, 1)
  | 76 => some (.astore_n 1, 1)
  | 77 => some (.astore_n 2, 1)
  | 78 => some (.astore_n 3, 1)
  | 79 => some (.iastore, 1)
  | 80 => some (.lastore, 1)
  | 83 => some (.aastore, 1)
  | 84 => some (.bastore, 1)
  | 87 => some (.pop, 1)
  | 89 => some (.dup, 1)
  | 90 => some (.dup_x1, 1)
  | 92 => some (.dup2, 1)
  | 96 => some (.iadd, 1)
  | 100 => some (.isub, 1)
  | 104 => some (.imul, 1)
  | 108 => some (.idiv, 1)
  | 112 => some (.irem, 1)
  | 116 => some (.ineg, 1)
  | 120 => some (.ishl, 1)
  | 122 => some (.ishr, 1)
  | 124 => some (.iushr, 1)
  | 126 => some (.iand, 1)
  | 128 => some (.ior, 1)
  | 130 => some (.ixor, 1)
  | 132 => some (.iinc (f (pc + 1)) (Reader.signed 8 (f (pc + 2))), 3)
  | 133 => some (.i2l, 1)
  | 148 => some (.lcmp, 1)
  | 153 => some (.ifCond .eq (Reader.signed 16 (f (pc + 1) * 256 + f (pc + 2))), 3)
  | 154 => some (.ifCond .ne (Reader.signed 16 (f (pc + 1) * 256 + f (pc + 2))), 3)
  | 155 => some (.ifCond .lt (Reader.signed 16 (f (pc + 1) * 256 + f (pc + 2))), 3)
  | 156 => some (.ifCond .ge (Reader.signed 16 (f (pc + 1) * 256 + f (pc + 2))), 3)
  | 157 => some (.ifCond .gt (Reader.signed 16 (f (pc + 1) * 256 + f (pc + 2))), 3)
  | 158 => some (.ifCond .le (Reader.signed 16 (f (pc + 1) * 256 + f (pc + 2))), 3)
  | 159 => some (.if_icmp .eq (Reader.signed 16 (f (pc + 1) * 256 + f (pc + 2))), 3)
  | 160 => some (.if_icmp .ne (Reader.signed 16 (f (pc + 1) * 256 + f (pc + 2))), 3)
  | 161 => some (.if_icmp .lt (Reader.signed 16 (f (pc + 1) * 256 + f (pc + 2))), 3)
  | 162 => some (.if_icmp .ge (Reader.signed 16 (f (pc + 1) * 256 + f (pc + 2))), 3)
  | 163 => some (.if_icmp .gt (Reader.signed 16 (f (pc + 1) * 256 + f (pc + 2))), 3)
  | 164 => some (.if_icmp .le (Reader.signed 16 (f (pc + 1) * 256 + f (pc + 2))), 3)
  | 165 => some (.if_acmp .eq (Reader.signed 16 (f (pc + 1) * 256 + f (pc + 2))), 3)
  | 166 => some (.if_acmp .ne (Reader.signed 16 (f (pc + 1) * 256 + f (pc + 2))), 3)
  | 167 => some (.goto (Reader.signed 16 (f (pc + 1) * 256 + f (pc + 2))), 3)
  | 172 => some (.ireturn, 1)
  | 176 => some (.areturn, 1)
  | 177 => some (.return_, 1)
  | 178 => some (.getstatic (f (pc + 1) * 256 + f (pc + 2)), 3)
  | 180 => some (.getfield (f (pc + 1) * 256 + f (pc + 2)), 3)
  | 181 => some (.putfield (f (pc + 1) * 256 + f (pc + 2)), 3)
  | 182 => some (.invokevirtual (f (pc + 1) * 256 + f (pc + 2)), 3)
  | 183 => some (.invokespecial (f (pc + 1) * 256 + f (pc + 2)), 3)
  | 184 => some (.invokestatic (f (pc + 1) * 256 + f (pc + 2)), 3)
  | 187 => some (.new (f (pc + 1) * 256 + f (pc + 2)), 3)
  | 189 => some (.anewarray (f (pc + 1) * 256 + f (pc + 2)), 3)
  | 190 => some (.arraylength, 1)
  | 191 => some (.athrow, 1)
  | 192 => some (.checkcast (f (pc + 1) * 256 + f (pc + 2)), 3)
  | 198 => some (.ifnull (Reader.signed 16 (f (pc + 1) * 256 + f (pc + 2))), 3)
  | 199 => some (.ifnonnull (Reader.signed 16 (f (pc + 1) * 256 + f (pc + 2))), 3)
  | _ => none
set_option maxHeartbeats 1000000 in
theorem dcF_ok (H : dcOk code f N) {pc : Nat} {i : Instr} {k : Nat} (h : dcF f pc = some (i, k)) (hp : pc + k ≤ N) : decode code pc = .ok (i, k) := by
  unfold dcF at h
  split at h
  · rename_i e
    cases h
    have hu := dc_u1 H (p := pc) (by omega)
    rw [e] at hu
    exact dc_of ((dc_bind Reader.u1 _ code pc _ _ hu).trans rfl) (by omega)
  · rename_i e
    cases h
    have hu := dc_u1 H (p := pc) (by omega)
    rw [e] at hu
    exact dc_of ((dc_bind Reader.u1 _ code pc _ _ hu).trans rfl) (by omega)
  · rename_i e
    cases h
    have hu := dc_u1 H (p := pc) (by omega)
    rw [e] at hu
    exact dc_of ((dc_bind Reader.u1 _ code pc _ _ hu).trans rfl) (by omega)
  · rename_i e
    cases h
    have hu := dc_u1 H (p := pc) (by omega)
    rw [e] at hu
    exact dc_of ((dc_bind Reader.u1 _ code pc _ _ hu).trans rfl) (by omega)
  · rename_i e
    cases h
    have hu := dc_u1 H (p := pc) (by omega)
    rw [e] at hu
    exact dc_of ((dc_bind Reader.u1 _ code pc _ _ hu).trans rfl) (by omega)
  · rename_i e
    cases h
    have hu := dc_u1 H (p := pc) (by omega)
    rw [e] at hu
    exact dc_of ((dc_bind Reader.u1 _ code pc _ _ hu).trans rfl) (by omega)
  · rename_i e
    cases h
    have hu := dc_u1 H (p := pc) (by omega)
    rw [e] at hu
    exact dc_of ((dc_bind Reader.u1 _ code pc _ _ hu).trans rfl) (by omega)
  · rename_i e
    cases h
    have hu := dc_u1 H (p := pc) (by omega)
    rw [e] at hu
    exact dc_of ((dc_bind Reader.u1 _ code pc _ _ hu).trans rfl) (by omega)
  · rename_i e
    cases h
    have hu := dc_u1 H (p := pc) (by omega)
    rw [e] at hu
    exact dc_of ((dc_bind Reader.u1 _ code pc _ _ hu).trans rfl) (by omega)
  · rename_i e
    cases h
    have hu := dc_u1 H (p := pc) (by omega)
    rw [e] at hu
    exact dc_of ((dc_bind Reader.u1 _ code pc _ _ hu).trans rfl) (by omega)
  · rename_i e
    cases h
    have hu := dc_u1 H (p := pc) (by omega)
    rw [e] at hu
    exact dc_of ((dc_bind Reader.u1 _ code pc _ _ hu).trans ((dc_bind Reader.s1 _ code (pc + 1) _ _ (dc_s1 H (by omega))).trans rfl)) (by omega)
  · rename_i e
    cases h
    have hu := dc_u1 H (p := pc) (by omega)
    rw [e] at hu
    exact dc_of ((dc_bind Reader.u1 _ code pc _ _ hu).trans ((dc_bind Reader.s2 _ code (pc + 1) _ _ (dc_s2 H (by omega))).trans rfl)) (by omega)
  · rename_i e
    cases h
    have hu := dc_u1 H (p := pc) (by omega)
    rw [e] at hu
    exact dc_of ((dc_bind Reader.u1 _ code pc _ _ hu).trans ((dc_bind Reader.u1 _ code (pc + 1) _ _ (dc_u1 H (by omega))).trans rfl)) (by omega)
  · rename_i e
    cases h
    have hu := dc_u1 H (p := pc) (by omega)
    rw [e] at hu
    exact dc_of ((dc_bind Reader.u1 _ code pc _ _ hu).trans ((dc_bind Reader.u2 _ code (pc + 1) _ _ (dc_u2 H (by omega))).trans rfl)) (by omega)
  · rename_i e
    cases h
    have hu := dc_u1 H (p := pc) (by omega)
    rw [e] at hu
    exact dc_of ((dc_bind Reader.u1 _ code pc _ _ hu).trans ((dc_bind Reader.u1 _ code (pc + 1) _ _ (dc_u1 H (by omega))).trans rfl)) (by omega)
  · rename_i e
    cases h
    have hu := dc_u1 H (p := pc) (by omega)
    rw [e] at hu
    exact dc_of ((dc_bind Reader.u1 _ code pc _ _ hu).trans ((dc_bind Reader.u1 _ code (pc + 1) _ _ (dc_u1 H (by omega))).trans rfl)) (by omega)
  · rename_i e
    cases h
    have hu := dc_u1 H (p := pc) (by omega)
    rw [e] at hu
    exact dc_of ((dc_bind Reader.u1 _ code pc _ _ hu).trans rfl) (by omega)
  · rename_i e
    cases h
    have hu := dc_u1 H (p := pc) (by omega)
    rw [e] at hu
    exact dc_of ((dc_bind Reader.u1 _ code pc _ _ hu).trans rfl) (by omega)
  · rename_i e
    cases h
    have hu := dc_u1 H (p := pc) (by omega)
    rw [e] at hu
    exact dc_of ((dc_bind Reader.u1 _ code pc _ _ hu).trans rfl) (by omega)
  · rename_i e
    cases h
    have hu := dc_u1 H (p := pc) (by omega)
    rw [e] at hu
    exact dc_of ((dc_bind Reader.u1 _ code pc _ _ hu).trans rfl) (by omega)
  · rename_i e
    cases h
    have hu := dc_u1 H (p := pc) (by omega)
    rw [e] at hu
    exact dc_of ((dc_bind Reader.u1 _ code pc _ _ hu).trans rfl) (by omega)
  · rename_i e
    cases h
    have hu := dc_u1 H (p := pc) (by omega)
    rw [e] at hu
    exact dc_of ((dc_bind Reader.u1 _ code pc _ _ hu).trans rfl) (by omega)
  · rename_i e
    cases h
    have hu := dc_u1 H (p := pc) (by omega)
    rw [e] at hu
    exact dc_of ((dc_bind Reader.u1 _ code pc _ _ hu).trans rfl) (by omega)
  · rename_i e
    cases h
    have hu := dc_u1 H (p := pc) (by omega)
    rw [e] at hu
    exact dc_of ((dc_bind Reader.u1 _ code pc _ _ hu).trans rfl) (by omega)
  · rename_i e
    cases h
    have hu := dc_u1 H (p := pc) (by omega)
    rw [e] at hu
    exact dc_of ((dc_bind Reader.u1 _ code pc _ _ hu).trans rfl) (by omega)
  · rename_i e
    cases h
    have hu := dc_u1 H (p := pc) (by omega)
    rw [e] at hu
    exact dc_of ((dc_bind Reader.u1 _ code pc _ _ hu).trans rfl) (by omega)
  · rename_i e
    cases h
    have hu := dc_u1 H (p := pc) (by omega)
    rw [e] at hu
    exact dc_of ((dc_bind Reader.u1 _ code pc _ _ hu).trans rfl) (by omega)
  · rename_i e
    cases h
    have hu := dc_u1 H (p := pc) (by omega)
    rw [e] at hu
    exact dc_of ((dc_bind Reader.u1 _ code pc _ _ hu).trans rfl) (by omega)
  · rename_i e
    cases h
    have hu := dc_u1 H (p := pc) (by omega)
    rw [e] at hu
    exact dc_of ((dc_bind Reader.u1 _ code pc _ _ hu).trans ((dc_bind Reader.u1 _ code (pc + 1) _ _ (dc_u1 H (by omega))).trans rfl)) (by omega)
  · rename_i e
    cases h
    have hu := dc_u1 H (p := pc) (by omega)
    rw [e] at hu
    exact dc_of ((dc_bind Reader.u1 _ code pc _ _ hu).trans ((dc_bind Reader.u1 _ code (pc + 1) _ _ (dc_u1 H (by omega))).trans rfl)) (by omega)
  · rename_i e
    cases h
    have hu := dc_u1 H (p := pc) (by omega)
    rw [e] at hu
    exact dc_of ((dc_bind Reader.u1 _ code pc _ _ hu).trans rfl) (by omega)
  · rename_i e
    cases h
    have hu := dc_u1 H (p := pc) (by omega)
    rw [e] at hu
    exact dc_of ((dc_bind Reader.u1 _ code pc _ _ hu).trans rfl) (by omega)
  · rename_i e
    cases h
    have hu := dc_u1 H (p := pc) (by omega)
    rw [e] at hu
    exact dc_of ((dc_bind Reader.u1 _ code pc _ _ hu).trans rfl) (by omega)
  · rename_i e
    cases h
    have hu := dc_u1 H (p := pc) (by omega)
    rw [e] at hu
    exact dc_of ((dc_bind Reader.u1 _ code pc _ _ hu).trans rfl) (by omega)
  · rename_i e
    cases h
    have hu := dc_u1 H (p := pc) (by omega)
    rw [e] at hu
    exact dc_of ((dc_bind Reader.u1 _ code pc _ _ hu).trans rfl) (by omega)
  · rename_i e
    cases h
    have hu := dc_u1 H (p := pc) (by omega)
    rw [e] at hu
    exact dc_of ((dc_bind Reader.u1 _ code pc _ _ hu).trans rfl) (by omega)
  · rename_i e
    cases h
    have hu := dc_u1 H (p := pc) (by omega)
    rw [e] at hu
    exact dc_of ((dc_bind Reader.u1 _ code pc _ _ hu).trans rfl) (by omega)
  · rename_i e
    cases h
    have hu := dc_u1 H (p := pc) (by omega)
    rw [e] at hu
    exact dc_of ((dc_bind Reader.u1 _ code pc _ _ hu).trans rfl) (by omega)
  · rename_i e
    cases h
    have hu := dc_u1 H (p := pc) (by omega)
    rw [e] at hu
    exact dc_of ((dc_bind Reader.u1 _ code pc _ _ hu).trans rfl) (by omega)
  · rename_i e
    cases h
    have hu := dc_u1 H (p := pc) (by omega)
    rw [e] at hu
    exact dc_of ((dc_bind Reader.u1 _ code pc _ _ hu).trans rfl) (by omega)
  · rename_i e
    cases h
    have hu := dc_u1 H (p := pc) (by omega)
    rw [e] at hu
    exact dc_of ((dc_bind Reader.u1 _ code pc _ _ hu).trans rfl) (by omega)
  · rename_i e
    cases h
    have hu := dc_u1 H (p := pc) (by omega)
    rw [e] at hu
    exact dc_of ((dc_bind Reader.u1 _ code pc _ _ hu).trans rfl) (by omega)
  · rename_i e
    cases h
    have hu := dc_u1 H (p := pc) (by omega)
    rw [e] at hu
    exact dc_of ((dc_bind Reader.u1 _ code pc _ _ hu).trans rfl) (by omega)
  · rename_i e
    cases h
    have hu := dc_u1 H (p := pc) (by omega)
    rw [e] at hu
    exact dc_of ((dc_bind Reader.u1 _ code pc _ _ hu).trans rfl) (by omega)
  · rename_i e
    cases h
    have hu := dc_u1 H (p := pc) (by omega)
    rw [e] at hu
    exact dc_of ((dc_bind Reader.u1 _ code pc _ _ hu).trans rfl) (by omega)
  · rename_i e
    cases h
    have hu := dc_u1 H (p := pc) (by omega)
    rw [e] at hu
    exact dc_of ((dc_bind Reader.u1 _ code pc _ _ hu).trans rfl) (by omega)
  · rename_i e
    cases h
    have hu := dc_u1 H (p := pc) (by omega)
    rw [e] at hu
    exact dc_of ((dc_bind Reader.u1 _ code pc _ _ hu).trans rfl) (by omega)
  · rename_i e
    cases h
    have hu := dc_u1 H (p := pc) (by omega)
    rw [e] at hu
    exact dc_of ((dc_bind Reader.u1 _ code pc _ _ hu).trans rfl) (by omega)
  · rename_i e
    cases h
    have hu := dc_u1 H (p := pc) (by omega)
    rw [e] at hu
    exact dc_of ((dc_bind Reader.u1 _ code pc _ _ hu).trans rfl) (by omega)
  · rename_i e
    cases h
    have hu := dc_u1 H (p := pc) (by omega)
    rw [e] at hu
    exact dc_of ((dc_bind Reader.u1 _ code pc _ _ hu).trans rfl) (by omega)
  · rename_i e
    cases h
    have hu := dc_u1 H (p := pc) (by omega)
    rw [e] at hu
    exact dc_of ((dc_bind Reader.u1 _ code pc _ _ hu).trans rfl) (by omega)
  · rename_i e
    cases h
    have hu := dc_u1 H (p := pc) (by omega)
    rw [e] at hu
    exact dc_of ((dc_bind Reader.u1 _ code pc _ _ hu).trans rfl) (by omega)
  · rename_i e
    cases h
    have hu := dc_u1 H (p := pc) (by omega)
    rw [e] at hu
    exact dc_of ((dc_bind Reader.u1 _ code pc _ _ hu).trans rfl) (by omega)
  · rename_i e
    cases h
    have hu := dc_u1 H (p := pc) (by omega)
    rw [e] at hu
    exact dc_of ((dc_bind Reader.u1 _ code pc _ _ hu).trans rfl) (by omega)
  · rename_i e
    cases h
    have hu := dc_u1 H (p := pc) (by omega)
    rw [e] at hu
    exact dc_of ((dc_bind Reader.u1 _ code pc _ _ hu).trans rfl) (by omega)
  · rename_i e
    cases h
    have hu := dc_u1 H (p := pc) (by omega)
    rw [e] at hu
    exact dc_of ((dc_bind Reader.u1 _ code pc _ _ hu).trans rfl) (by omega)
  · rename_i e
    cases h
    have hu := dc_u1 H (p := pc) (by omega)
    rw [e] at hu
    exact dc_of ((dc_bind Reader.u1 _ code pc _ _ hu).trans rfl) (by omega)
  · rename_i e
    cases h
    have hu := dc_u1 H (p := pc) (by omega)
    rw [e] at hu
    exact dc_of ((dc_bind Reader.u1 _ code pc _ _ hu).trans rfl) (by omega)
  · rename_i e
    cases h
    have hu := dc_u1 H (p := pc) (by omega)
    rw [e] at hu
    exact dc_of ((dc_bind Reader.u1 _ code pc _ _ hu).trans ((dc_bind Reader.u1 _ code (pc + 1) _ _ (dc_u1 H (by omega))).trans ((dc_bind Reader.s1 _ code (pc + 2) _ _ (dc_s1 H (by omega))).trans rfl))) (by omega)
  · rename_i e
    cases h
    have hu := dc_u1 H (p := pc) (by omega)
    rw [e] at hu
    exact dc_of ((dc_bind Reader.u1 _ code pc _ _ hu).trans rfl) (by omega)
  · rename_i e
    cases h
    have hu := dc_u1 H (p := pc) (by omega)
    rw [e] at hu
    exact dc_of ((dc_bind Reader.u1 _ code pc _ _ hu).trans rfl) (by omega)
  · rename_i e
    cases h
    have hu := dc_u1 H (p := pc) (by omega)
    rw [e] at hu
    exact dc_of ((dc_bind Reader.u1 _ code pc _ _ hu).trans ((dc_bind Reader.s2 _ code (pc + 1) _ _ (dc_s2 H (by omega))).trans rfl)) (by omega)
  · rename_i e
    cases h
    have hu := dc_u1 H (p := pc) (by omega)
    rw [e] at hu
    exact dc_of ((dc_bind Reader.u1 _ code pc _ _ hu).trans ((dc_bind Reader.s2 _ code (pc + 1) _ _ (dc_s2 H (by omega))).trans rfl)) (by omega)
  · rename_i e
    cases h
    have hu := dc_u1 H (p := pc) (by omega)
    rw [e] at hu
    exact dc_of ((dc_bind Reader.u1 _ code pc _ _ hu).trans ((dc_bind Reader.s2 _ code (pc + 1) _ _ (dc_s2 H (by omega))).trans rfl)) (by omega)
  · rename_i e
    cases h
    have hu := dc_u1 H (p := pc) (by omega)
    rw [e] at hu
    exact dc_of ((dc_bind Reader.u1 _ code pc _ _ hu).trans ((dc_bind Reader.s2 _ code (pc + 1) _ _ (dc_s2 H (by omega))).trans rfl)) (by omega)
  · rename_i e
    cases h
    have hu := dc_u1 H (p := pc) (by omega)
    rw [e] at hu
    exact dc_of ((dc_bind Reader.u1 _ code pc _ _ hu).trans ((dc_bind Reader.s2 _ code (pc + 1) _ _ (dc_s2 H (by omega))).trans rfl)) (by omega)
  · rename_i e
    cases h
    have hu := dc_u1 H (p := pc) (by omega)
    rw [e] at hu
    exact dc_of ((dc_bind Reader.u1 _ code pc _ _ hu).trans ((dc_bind Reader.s2 _ code (pc + 1) _ _ (dc_s2 H (by omega))).trans rfl)) (by omega)
  · rename_i e
    cases h
    have hu := dc_u1 H (p := pc) (by omega)
    rw [e] at hu
    exact dc_of ((dc_bind Reader.u1 _ code pc _ _ hu).trans ((dc_bind Reader.s2 _ code (pc + 1) _ _ (dc_s2 H (by omega))).trans rfl)) (by omega)
  · rename_i e
    cases h
    have hu := dc_u1 H (p := pc) (by omega)
    rw [e] at hu
    exact dc_of ((dc_bind Reader.u1 _ code pc _ _ hu).trans ((dc_bind Reader.s2 _ code (pc + 1) _ _ (dc_s2 H (by omega))).trans rfl)) (by omega)
  · rename_i e
    cases h
    have hu := dc_u1 H (p := pc) (by omega)
    rw [e] at hu
    exact dc_of ((dc_bind Reader.u1 _ code pc _ _ hu).trans ((dc_bind Reader.s2 _ code (pc + 1) _ _ (dc_s2 H (by omega))).trans rfl)) (by omega)
  · rename_i e
    cases h
    have hu := dc_u1 H (p := pc) (by omega)
    rw [e] at hu
    exact dc_of ((dc_bind Reader.u1 _ code pc _ _ hu).trans ((dc_bind Reader.s2 _ code (pc + 1) _ _ (dc_s2 H (by omega))).trans rfl)) (by omega)
  · rename_i e
    cases h
    have hu := dc_u1 H (p := pc) (by omega)
    rw [e] at hu
    exact dc_of ((dc_bind Reader.u1 _ code pc _ _ hu).trans ((dc_bind Reader.s2 _ code (pc + 1) _ _ (dc_s2 H (by omega))).trans rfl)) (by omega)
  · rename_i e
    cases h
    have hu := dc_u1 H (p := pc) (by omega)
    rw [e] at hu
    exact dc_of ((dc_bind Reader.u1 _ code pc _ _ hu).trans ((dc_bind Reader.s2 _ code (pc + 1) _ _ (dc_s2 H (by omega))).trans rfl)) (by omega)
  · rename_i e
    cases h
    have hu := dc_u1 H (p := pc) (by omega)
    rw [e] at hu
    exact dc_of ((dc_bind Reader.u1 _ code pc _ _ hu).trans ((dc_bind Reader.s2 _ code (pc + 1) _ _ (dc_s2 H (by omega))).trans rfl)) (by omega)
  · rename_i e
    cases h
    have hu := dc_u1 H (p := pc) (by omega)
    rw [e] at hu
    exact dc_of ((dc_bind Reader.u1 _ code pc _ _ hu).trans ((dc_bind Reader.s2 _ code (pc + 1) _ _ (dc_s2 H (by omega))).trans rfl)) (by omega)
  · rename_i e
    cases h
    have hu := dc_u1 H (p := pc) (by omega)
    rw [e] at hu
    exact dc_of ((dc_bind Reader.u1 _ code pc _ _ hu).trans ((dc_bind Reader.s2 _ code (pc + 1) _ _ (dc_s2 H (by omega))).trans rfl)) (by omega)
  · rename_i e
    cases h
    have hu := dc_u1 H (p := pc) (by omega)
    rw [e] at hu
    exact dc_of ((dc_bind Reader.u1 _ code pc _ _ hu).trans rfl) (by omega)
  · rename_i e
    cases h
    have hu := dc_u1 H (p := pc) (by omega)
    rw [e] at hu
    exact dc_of ((dc_bind Reader.u1 _ code pc _ _ hu).trans rfl) (by omega)
  · rename_i e
    cases h
    have hu := dc_u1 H (p := pc) (by omega)
    rw [e] at hu
    exact dc_of ((dc_bind Reader.u1 _ code pc _ _ hu).trans rfl) (by omega)
  · rename_i e
    cases h
    have hu := dc_u1 H (p := pc) (by omega)
    rw [e] at hu
    exact dc_of ((dc_bind Reader.u1 _ code pc _ _ hu).trans ((dc_bind Reader.u2 _ code (pc + 1) _ _ (dc_u2 H (by omega))).trans rfl)) (by omega)
  · rename_i e
    cases h
    have hu := dc_u1 H (p := pc) (by omega)
    rw [e] at hu
    exact dc_of ((dc_bind Reader.u1 _ code pc _ _ hu).trans ((dc_bind Reader.u2 _ code (pc + 1) _ _ (dc_u2 H (by omega))).trans rfl)) (by omega)
  · rename_i e
    cases h
    have hu := dc_u1 H (p := pc) (by omega)
    rw [e] at hu
    exact dc_of ((dc_bind Reader.u1 _ code pc _ _ hu).trans ((dc_bind Reader.u2 _ code (pc + 1) _ _ (dc_u2 H (by omega))).trans rfl)) (by omega)
  · rename_i e
    cases h
    have hu := dc_u1 H (p := pc) (by omega)
    rw [e] at hu
    exact dc_of ((dc_bind Reader.u1 _ code pc _ _ hu).trans ((dc_bind Reader.u2 _ code (pc + 1) _ _ (dc_u2 H (by omega))).trans rfl)) (by omega)
  · rename_i e
    cases h
    have hu := dc_u1 H (p := pc) (by omega)
    rw [e] at hu
    exact dc_of ((dc_bind Reader.u1 _ code pc _ _ hu).trans ((dc_bind Reader.u2 _ code (pc + 1) _ _ (dc_u2 H (by omega))).trans rfl)) (by omega)
  · rename_i e
    cases h
    have hu := dc_u1 H (p := pc) (by omega)
    rw [e] at hu
    exact dc_of ((dc_bind Reader.u1 _ code pc _ _ hu).trans ((dc_bind Reader.u2 _ code (pc + 1) _ _ (dc_u2 H (by omega))).trans rfl)) (by omega)
  · rename_i e
    cases h
    have hu := dc_u1 H (p := pc) (by omega)
    rw [e] at hu
    exact dc_of ((dc_bind Reader.u1 _ code pc _ _ hu).trans ((dc_bind Reader.u2 _ code (pc + 1) _ _ (dc_u2 H (by omega))).trans rfl)) (by omega)
  · rename_i e
    cases h
    have hu := dc_u1 H (p := pc) (by omega)
    rw [e] at hu
    exact dc_of ((dc_bind Reader.u1 _ code pc _ _ hu).trans ((dc_bind Reader.u2 _ code (pc + 1) _ _ (dc_u2 H (by omega))).trans rfl)) (by omega)
  · rename_i e
    cases h
    have hu := dc_u1 H (p := pc) (by omega)
    rw [e] at hu
    exact dc_of ((dc_bind Reader.u1 _ code pc _ _ hu).trans rfl) (by omega)
  · rename_i e
    cases h
    have hu := dc_u1 H (p := pc) (by omega)
    rw [e] at hu
    exact dc_of ((dc_bind Reader.u1 _ code pc _ _ hu).trans rfl) (by omega)
  · rename_i e
    cases h
    have hu := dc_u1 H (p := pc) (by omega)
    rw [e] at hu
    exact dc_of ((dc_bind Reader.u1 _ code pc _ _ hu).trans ((dc_bind Reader.u2 _ code (pc + 1) _ _ (dc_u2 H (by omega))).trans rfl)) (by omega)
  · rename_i e
    cases h
    have hu := dc_u1 H (p := pc) (by omega)
    rw [e] at hu
    exact dc_of ((dc_bind Reader.u1 _ code pc _ _ hu).trans ((dc_bind Reader.s2 _ code (pc + 1) _ _ (dc_s2 H (by omega))).trans rfl)) (by omega)
  · rename_i e
    cases h
    have hu := dc_u1 H (p := pc) (by omega)
    rw [e] at hu
    exact dc_of ((dc_bind Reader.u1 _ code pc _ _ hu).trans ((dc_bind Reader.s2 _ code (pc + 1) _ _ (dc_s2 H (by omega))).trans rfl)) (by omega)
  · cases h
def dcG (n N pc : Nat) : Option (Instr × Nat) := match dcF (dcB n) pc with
  | some q => (match Nat.ble (pc + q.2) N with
    | true => some q
    | false => none)
  | none => none
theorem dcG_ok {n : Nat} (H : dcOk code (dcB n) N) {pc k : Nat} {i : Instr} (h : dcG n N pc = some (i, k)) : decode code pc = .ok (i, k) := by
  unfold dcG at h
  split at h
  · rename_i q e
    split at h
    · rename_i e2
      cases h
      exact dcF_ok H e (Nat.le_of_ble_eq_true e2)
    · cases h
  · cases h
end DC
/-- a row of the table, its instruction read off the number -/
def xRowQ (n N : Nat) (own : String) (cc : ByteArray) (ws : List Jvm.Cond) (cl : List vw_C) (uc : List Nat) (calls : List (Instr × Nat × Nat × Nat)) (thr : List (Nat × Nat)) (nL : Nat) (isInit : Bool) (ret : Option FieldType) (r : Nat × xHint) : Bool :=
  match dcG n N r.1 with
    | some q => (decide (q.1 = r.2.1) && (match xlen q.1 with
      | some k => decide (k = q.2)
      | none => true)) && xIns own ws cl uc calls thr nL isInit ret r.1 r.2.1 r.2.2.1 r.2.2.2.1 r.2.2.2.2.1 r.2.2.2.2.2
    | none => xRow own cc ws cl uc calls thr nL isInit ret r
theorem xRow_q {own : String} {cc : ByteArray} {ws : List Jvm.Cond} {cl : List vw_C} {uc : List Nat} {calls : List (Instr × Nat × Nat × Nat)} {thr : List (Nat × Nat)} {nL : Nat} {isInit : Bool} {ret : Option FieldType} {tb : List (Nat × xHint)} (n N : Nat) (hc : dcC cc n N = true) (h : tb.all (xRowQ n N own cc ws cl uc calls thr nL isInit ret) = true) : tb.all (xRow own cc ws cl uc calls thr nL isInit ret) = true := by
  refine List.all_eq_true.mpr (fun r hr => ?_)
  have h1 := List.all_eq_true.mp h r hr
  unfold xRowQ at h1
  split at h1
  · rename_i q e
    unfold xRow
    rw [dcG_ok (dcC_ok hc) (show dcG n N r.1 = some (q.1, q.2) from e)]
    exact h1
  · exact h1
theorem xUse_n {ws : List Jvm.Cond} {cl : List vw_C} : xUse ws cl [] = true := rfl
theorem xUse_c {ws : List Jvm.Cond} {cl : List vw_C} {ci : Nat} {uc : List Nat} {C : String} {T : u_T} {N : Nat} (h : cl[ci]? = some (C, T, N)) (g : ∀ w ∈ u_ws C T N, w ∈ ws) (r : xUse ws cl uc = true) : xUse ws cl (ci :: uc) = true := by
  unfold xUse at r ⊢
  rw [List.all_cons, r, Bool.and_true, h]
  exact List.all_eq_true.mpr (fun w hw => decide_eq_true (g w hw))
theorem xUse_g {ws : List Jvm.Cond} {cl : List vw_C} {ci : Nat} {uc : List Nat} {C : String} {T : u_T} {N : Nat} (h : cl[ci]? = some (C, T, N)) (g : GoodIn ws (u_ws C T N)) (r : xUse ws cl uc = true) : xUse ws cl (ci :: uc) = true := xUse_c h (fun w hw => (g w hw).1) r
