/-! Shifts, counted: sums over barges, over places, over orders. -/
set_option maxHeartbeats 400000 in
theorem perm_sum {l1 l2 : List Nat} (h : List.Perm l1 l2) (f : Nat → Nat) : (l1.map f).sum = (l2.map f).sum := by
  induction h with
  | nil => rfl
  | cons x _ ih => rw [List.map_cons, List.map_cons, List.sum_cons, List.sum_cons, ih]
  | swap x y l => rw [List.map_cons, List.map_cons, List.map_cons, List.map_cons, List.sum_cons, List.sum_cons, List.sum_cons, List.sum_cons]; omega
  | trans _ _ a b => exact a.trans b
def smN (h : Nat → Nat) : Nat → Nat
  | 0 => 0
  | j + 1 => smN h j + h j
set_option maxHeartbeats 400000 in
theorem smN_c {h g : Nat → Nat} : ∀ n, (∀ i, i < n → h i = g i) → smN h n = smN g n
  | 0, _ => rfl
  | n + 1, k => by
    show smN h n + h n = smN g n + g n
    rw [smN_c n (fun i hi => k i (by omega)), k n (by omega)]
set_option maxHeartbeats 400000 in
theorem smN_f (h : Nat → Nat) : ∀ n, smN h (n + 1) = h 0 + smN (fun i => h (i + 1)) n
  | 0 => by show 0 + h 0 = h 0 + 0; omega
  | n + 1 => by
    show smN h (n + 1) + h (n + 1) = h 0 + (smN (fun i => h (i + 1)) n + h (n + 1))
    rw [smN_f h n]
    omega
set_option maxHeartbeats 400000 in
theorem smN_rev (h : Nat → Nat) : ∀ n, smN (fun j => h (n - 1 - j)) n = smN h n
  | 0 => rfl
  | n + 1 => by
    rw [smN_f]
    show h (n + 1 - 1 - 0) + smN (fun i => h (n + 1 - 1 - (i + 1))) n = smN h n + h n
    rw [show n + 1 - 1 - 0 = n by omega, ← smN_rev h n, smN_c (g := fun j => h (n - 1 - j)) n (fun i hi => by show h (n + 1 - 1 - (i + 1)) = h (n - 1 - i); congr 1; omega)]
    omega
set_option maxHeartbeats 400000 in
/-- as lists -/
theorem smN_l (n : Nat) (f o : Nat → Nat) : ∀ k, smN (fun i => if n.testBit (f i) then o (f i) else 0) k = ((((List.range k).map f).filter (fun x => n.testBit x)).map o).sum
  | 0 => rfl
  | k + 1 => by
    rw [List.range_succ, List.map_append, List.filter_append, List.map_append, List.sum_append_nat, ← smN_l n f o k]
    show _ + (if n.testBit (f k) then o (f k) else 0) = _
    cases c : n.testBit (f k) <;> simp [c]
def ow (f : Nat → Nat) (u p : Nat) : Nat → Nat
  | 0 => 0
  | j + 1 => ow f u p j + (if u.testBit (f (p + j)) then 0 else 1)
set_option maxHeartbeats 400000 in
theorem ow_le (f : Nat → Nat) (u p : Nat) : ∀ j, ow f u p j ≤ j
  | 0 => Nat.le_refl _
  | j + 1 => by
    have := ow_le f u p j
    show ow f u p j + (if u.testBit (f (p + j)) then 0 else 1) ≤ j + 1
    split <;> omega
set_option maxHeartbeats 400000 in
theorem ow_mono {f : Nat → Nat} {u n p : Nat} (h : ∀ i, u.testBit i = true → n.testBit i = true) : ∀ j, ow f n p j ≤ ow f u p j
  | 0 => Nat.le_refl _
  | j + 1 => by
    have k := ow_mono (f := f) (p := p) h j
    have k2 := h (f (p + j))
    show ow f n p j + (if n.testBit (f (p + j)) then 0 else 1) ≤ ow f u p j + (if u.testBit (f (p + j)) then 0 else 1)
    cases c : u.testBit (f (p + j))
    · simp
      split <;> omega
    · rw [k2 c]
      simp
      exact k
set_option maxHeartbeats 400000 in
theorem ow_eq {f : Nat → Nat} {u n p : Nat} : ∀ j, (∀ i, i < j → u.testBit (f (p + i)) = n.testBit (f (p + i))) → ow f u p j = ow f n p j
  | 0, _ => rfl
  | j + 1, h => by
    show ow f u p j + (if u.testBit (f (p + j)) then 0 else 1) = ow f n p j + (if n.testBit (f (p + j)) then 0 else 1)
    rw [ow_eq j (fun i hi => h i (by omega)), h j (by omega)]
set_option maxHeartbeats 400000 in
theorem ow_s (f : Nat → Nat) (u p : Nat) : ∀ j, ow f u p (j + 1) = (if u.testBit (f p) then 0 else 1) + ow f u (p + 1) j
  | 0 => by
    show 0 + (if u.testBit (f (p + 0)) then 0 else 1) = (if u.testBit (f p) then 0 else 1) + 0
    rw [Nat.add_zero, Nat.add_zero, Nat.zero_add]
  | j + 1 => by
    show ow f u p (j + 1) + (if u.testBit (f (p + (j + 1))) then 0 else 1) = (if u.testBit (f p) then 0 else 1) + (ow f u (p + 1) j + (if u.testBit (f (p + 1 + j)) then 0 else 1))
    rw [ow_s f u p j, show p + 1 + j = p + (j + 1) by omega]
    omega
def tS (f : Nat → Nat) (u : Nat) : List Nat → Nat
  | [] => 0
  | k :: r => (if u.testBit k then 0 else f k) + tS f u r
set_option maxHeartbeats 400000 in
theorem bit_or {u k i : Nat} : (u ||| 2 ^ k).testBit i = (u.testBit i || decide (k = i)) := by rw [Nat.testBit_or, Nat.testBit_two_pow]
set_option maxHeartbeats 400000 in
theorem tS_out {f : Nat → Nat} {u k : Nat} : ∀ {c : List Nat}, k ∉ c → tS f (u ||| 2 ^ k) c = tS f u c
  | [], _ => rfl
  | a :: r, h => by
    have hne : k ≠ a := fun z => h (by rw [z]; exact List.mem_cons_self)
    show (if (u ||| 2 ^ k).testBit a then 0 else f a) + tS f (u ||| 2 ^ k) r = (if u.testBit a then 0 else f a) + tS f u r
    rw [tS_out (fun z => h (List.mem_cons_of_mem _ z)), bit_or, decide_eq_false hne, Bool.or_false]
set_option maxHeartbeats 400000 in
theorem tS_set {f : Nat → Nat} {u k : Nat} (hb : u.testBit k = false) : ∀ {c : List Nat}, c.Nodup → k ∈ c → tS f u c = f k + tS f (u ||| 2 ^ k) c
  | [], _, h => by cases h
  | a :: r, hn, h => by
    have hn2 := List.nodup_cons.mp hn
    show (if u.testBit a then 0 else f a) + tS f u r = f k + ((if (u ||| 2 ^ k).testBit a then 0 else f a) + tS f (u ||| 2 ^ k) r)
    rw [bit_or]
    by_cases c : k = a
    · subst c
      rw [tS_out hn2.1, hb, decide_eq_true rfl]
      simp
    · rw [decide_eq_false c, Bool.or_false, tS_set hb hn2.2 ((List.mem_cons.mp h).resolve_left c)]
      omega
set_option maxHeartbeats 400000 in
theorem tS_no {u : Nat} : ∀ {c : List Nat}, tS (fun _ => 1) u c = 0 → ∀ k ∈ c, u.testBit k = true
  | [], _, k, h => by cases h
  | a :: r, h, k, hk => by
    have h2 : (if u.testBit a then 0 else 1) + tS (fun _ => 1) u r = 0 := h
    rcases List.mem_cons.mp hk with z | z
    · subst z
      cases c : u.testBit k
      · rw [c] at h2
        simp at h2
      · rfl
    · exact tS_no (c := r) (by omega) k z
set_option maxHeartbeats 400000 in
theorem tS_0 {f : Nat → Nat} {u : Nat} : ∀ {c : List Nat}, (∀ k ∈ c, u.testBit k = true) → tS f u c = 0
  | [], _ => rfl
  | a :: r, h => by
    show (if u.testBit a then 0 else f a) + tS f u r = 0
    rw [h a List.mem_cons_self, tS_0 (fun k hk => h k (List.mem_cons_of_mem _ hk))]
    rfl
set_option maxHeartbeats 400000 in
theorem tS_le {f : Nat → Nat} {u B : Nat} : ∀ {c : List Nat}, (∀ k ∈ c, f k ≤ B) → tS f u c ≤ B * c.length
  | [], _ => Nat.zero_le _
  | a :: r, h => by
    have h1 := tS_le (f := f) (u := u) (c := r) (fun k hk => h k (List.mem_cons_of_mem _ hk))
    have h2 := h a List.mem_cons_self
    show (if u.testBit a then 0 else f a) + tS f u r ≤ B * (r.length + 1)
    rw [Nat.mul_add]
    split <;> omega
set_option maxHeartbeats 400000 in
theorem tS_all (f : Nat → Nat) : ∀ c : List Nat, tS f 0 c = (c.map f).sum
  | [] => rfl
  | a :: r => by
    show (if (0 : Nat).testBit a then 0 else f a) + tS f 0 r = _
    rw [Nat.zero_testBit, tS_all f r, List.map_cons, List.sum_cons]
    rfl
set_option maxHeartbeats 400000 in
theorem tS_app (f : Nat → Nat) (u : Nat) : ∀ a b : List Nat, tS f u (a ++ b) = tS f u a + tS f u b
  | [], b => by show tS f u b = 0 + tS f u b; omega
  | k :: r, b => by
    show (if u.testBit k then 0 else f k) + tS f u (r ++ b) = (if u.testBit k then 0 else f k) + tS f u r + tS f u b
    rw [tS_app f u r b]
    omega
set_option maxHeartbeats 400000 in
theorem zb_or (a b : Nat) : nI a ||| nI b = nI (a ||| b) := by
  apply Int32.toBitVec_inj.1
  show BitVec.ofNat 32 a ||| BitVec.ofNat 32 b = BitVec.ofNat 32 (a ||| b)
  apply BitVec.eq_of_getLsbD_eq
  intro i hi
  simp [hi]
set_option maxHeartbeats 400000 in
theorem zb_tb {n j : Nat} (hj : j < 31) : (nI n &&& 1 <<< (nI j &&& 31) = 0) = (n.testBit j = false) := by
  rw [zb_one hj, Nat.testBit_eq_decide_div_mod_eq]
  simp
set_option maxHeartbeats 400000 in
theorem zb_ins {u k : Nat} (hk : k < 31) : nI u ||| 1 <<< (nI k &&& 31) = nI (u ||| 2 ^ k) := by
  have e : (1 : Int32) <<< (nI k &&& 31) = nI (2 ^ k) := (by decide +kernel : ∀ j, j < 31 → (1 : Int32) <<< (nI j &&& 31) = nI (2 ^ j)) k hk
  rw [e, zb_or]
section FEW
variable {S : cS} {l n : Nat} {c : List Nat} {bw : Nat → Nat → Nat} {o : Nat → Nat}
set_option maxHeartbeats 400000 in
/-- trying all orders gives the sum of those that stay -/
theorem cFw_eq (hlen : lCn S l = c.length) (hc6 : c.length ≤ 24) (hbit : ∀ (j k : Nat), c[j]? = some k → cFi S (lG S l j) 100 = nI k)
    (hbw : ∀ (j k u : Nat), c[j]? = some k → rBh S (cRf S (lG S l j) 102) (lG S l j) (nI u) = nI (bw k u))
    (hk31 : ∀ k ∈ c, k < 31) (hbk : ∀ k ∈ c, n.testBit k = true) (hnd : c.Nodup)
    (ho : ∀ k ∈ c, ∀ u : Nat, (∀ i, u.testBit i = true → n.testBit i = true) → o k ≤ bw k u)
    (hex : ∀ u : Nat, (∀ i, u.testBit i = true → n.testBit i = true) → (∃ k ∈ c, u.testBit k = false) → ∃ k ∈ c, u.testBit k = false ∧ bw k u = o k)
    (hB : ∀ k ∈ c, ∀ u, bw k u ≤ 5) (hoB : ∀ k ∈ c, o k ≤ 5) : ∀ (d u : Nat), (∀ i, u.testBit i = true → n.testBit i = true) → tS (fun _ => 1) u c ≤ d → cFw S l d (nI u) = nI (tS o u c) := by
  intro d
  induction d with
  | zero =>
    intro u hu h0
    rw [tS_0 (tS_no (show tS (fun _ => 1) u c = 0 by omega))]
    rfl
  | succ d ih =>
    intro u hu h0
    have hT : ∀ v, tS o v c ≤ 5 * c.length := fun v => tS_le hoB
    have hinv : ∀ j, j ≤ c.length → ((∀ i k : Nat, i < j → c[i]? = some k → u.testBit k = true) ∧ cFq S l (nI u) (cFw S l d) j = -1) ∨
        ∃ x, cFq S l (nI u) (cFw S l d) j = nI x ∧ tS o u c ≤ x ∧ x < 900 ∧ (∃ i k : Nat, i < j ∧ c[i]? = some k ∧ u.testBit k = false) ∧ ((∃ i k : Nat, i < j ∧ c[i]? = some k ∧ u.testBit k = false ∧ bw k u = o k) → x = tS o u c) := by
      intro j
      induction j with
      | zero => intro _; exact Or.inl ⟨fun i k hi => by omega, rfl⟩
      | succ j ihj =>
        intro hj
        have hjl : j < c.length := by omega
        have hcj : c[j]? = some c[j] := List.getElem?_eq_getElem hjl
        have hmem : c[j] ∈ c := List.getElem_mem hjl
        have hb := hbit j _ hcj
        have hw := hbw j _ u hcj
        have hk := hk31 _ hmem
        have hBk := hB _ hmem u
        have hok := ho _ hmem u hu
        have hs : cFq S l (nI u) (cFw S l d) (j + 1) = if nI u &&& 1 <<< (cFi S (lG S l j) 100 &&& 31) = 0 then (if cFq S l (nI u) (cFw S l d) j = -1 then rBh S (cRf S (lG S l j) 102) (lG S l j) (nI u) + cFw S l d (nI u ||| 1 <<< (cFi S (lG S l j) 100 &&& 31)) else if rBh S (cRf S (lG S l j) 102) (lG S l j) (nI u) + cFw S l d (nI u ||| 1 <<< (cFi S (lG S l j) 100 &&& 31)) < cFq S l (nI u) (cFw S l d) j then rBh S (cRf S (lG S l j) 102) (lG S l j) (nI u) + cFw S l d (nI u ||| 1 <<< (cFi S (lG S l j) 100 &&& 31)) else cFq S l (nI u) (cFw S l d) j) else cFq S l (nI u) (cFw S l d) j := rfl
        rw [hb, hw, zb_ins hk] at hs
        generalize hkk : c[j] = k at *
        have hprev := ihj (by omega)
        cases cb : u.testBit k with
        | true =>
          rw [if_neg (by rw [zb_tb hk, cb]; exact fun z => by cases z)] at hs
          rw [hs]
          rcases hprev with ⟨p1, p2⟩ | ⟨x, p1, p2, p3, ⟨i, k2, p4, p5⟩, p6⟩
          · refine Or.inl ⟨fun i k2 hi hik => ?_, p2⟩
            by_cases q : i = j
            · subst q
              rw [hcj] at hik
              cases hik
              exact cb
            · exact p1 i k2 (by omega) hik
          · refine Or.inr ⟨x, p1, p2, p3, ⟨i, k2, by omega, p5⟩, fun ⟨i2, k3, q1, q2, q3, q4⟩ => ?_⟩
            by_cases q : i2 = j
            · subst q
              rw [hcj] at q2
              cases q2
              rw [cb] at q3
              cases q3
            · exact p6 ⟨i2, k3, by omega, q2, q3, q4⟩
        | false =>
          rw [if_pos (by rw [zb_tb hk]; exact cb)] at hs
          have hset := tS_set (f := o) cb hnd hmem
          have hset1 := tS_set (f := fun _ => 1) cb hnd hmem
          have hrec := ih (u ||| 2 ^ k) (fun i hi => by
            rw [bit_or] at hi
            cases q : u.testBit i
            · rw [q, Bool.false_or] at hi
              have := of_decide_eq_true hi
              rw [← this]
              exact hbk k hmem
            · exact hu i q) (by omega)
          rw [hrec, add_nI] at hs
          have hT2 := hT (u ||| 2 ^ k)
          generalize hy : bw k u + tS o (u ||| 2 ^ k) c = y at *
          have hy2 : tS o u c ≤ y := by omega
          have hy3 : y < 900 := by omega
          have hy4 : bw k u = o k → y = tS o u c := fun z => by omega
          refine Or.inr ?_
          rcases hprev with ⟨p1, p2⟩ | ⟨x, p1, p2, p3, ⟨i, k2, p4, p5⟩, p6⟩
          · rw [if_pos p2] at hs
            refine ⟨y, hs, hy2, hy3, ⟨j, k, by omega, hcj, cb⟩, fun ⟨i2, k3, q1, q2, q3, q4⟩ => ?_⟩
            by_cases q : i2 = j
            · subst q
              rw [hcj] at q2
              cases q2
              exact hy4 q4
            · have := p1 i2 k3 (by omega) q2
              rw [this] at q3
              cases q3
          · rw [p1, if_neg (nI_m1 (by omega))] at hs
            have hlt : (nI y < nI x) = (y < x) := lt_nI (by omega) (by omega)
            by_cases q : y < x
            · rw [if_pos (by rw [hlt]; exact q)] at hs
              refine ⟨y, hs, hy2, hy3, ⟨j, k, by omega, hcj, cb⟩, fun ⟨i2, k3, q1, q2, q3, q4⟩ => ?_⟩
              by_cases q5 : i2 = j
              · subst q5
                rw [hcj] at q2
                cases q2
                exact hy4 q4
              · have := p6 ⟨i2, k3, by omega, q2, q3, q4⟩
                omega
            · rw [if_neg (by rw [hlt]; exact q)] at hs
              refine ⟨x, hs, p2, p3, ⟨j, k, by omega, hcj, cb⟩, fun ⟨i2, k3, q1, q2, q3, q4⟩ => ?_⟩
              by_cases q5 : i2 = j
              · subst q5
                rw [hcj] at q2
                cases q2
                have := hy4 q4
                omega
              · exact p6 ⟨i2, k3, by omega, q2, q3, q4⟩
    have hfin : cFw S l (d + 1) (nI u) = if cFq S l (nI u) (cFw S l d) (lCn S l) = -1 then 0 else cFq S l (nI u) (cFw S l d) (lCn S l) := rfl
    rw [hfin, hlen]
    rcases hinv c.length (Nat.le_refl _) with ⟨p1, p2⟩ | ⟨x, p1, p2, p3, ⟨i, k2, p4, p5, p6⟩, p7⟩
    · rw [if_pos p2, tS_0 (fun k hk => ?_)]
      · rfl
      · obtain ⟨i, hi, e⟩ := List.getElem_of_mem hk
        exact p1 i k hi (by rw [List.getElem?_eq_getElem hi, e])
    · obtain ⟨k, hk, q1, q2⟩ := hex u hu ⟨k2, List.mem_of_getElem? p5, p6⟩
      obtain ⟨i3, hi3, e3⟩ := List.getElem_of_mem hk
      rw [p1, if_neg (nI_m1 (by omega)), p7 ⟨i3, k, hi3, by rw [List.getElem?_eq_getElem hi3, e3], q1, q2⟩]
set_option maxHeartbeats 400000 in
theorem cSf_eq (hlen : lCn S l = c.length) (hbw : ∀ (j k u : Nat), c[j]? = some k → rBh S (cRf S (lG S l j) 102) (lG S l j) (nI u) = nI (bw k u)) : ∀ j, j ≤ c.length → cSf S l (nI n) j = nI (tS (fun k => bw k n) 0 (c.take j))
  | 0, _ => by rw [List.take_zero]; rfl
  | j + 1, hj => by
    have hjl : j < c.length := by omega
    have hcj : c[j]? = some c[j] := List.getElem?_eq_getElem hjl
    show cSf S l (nI n) j + rBh S (cRf S (lG S l j) 102) (lG S l j) (nI n) = _
    rw [cSf_eq hlen hbw j (by omega), hbw j _ n hcj, add_nI, List.take_add_one, hcj, tS_app]
    show _ = nI (tS (fun k => bw k n) 0 (c.take j) + ((if (0 : Nat).testBit c[j] then 0 else bw c[j] n) + 0))
    rw [Nat.zero_testBit]
    rfl
end FEW
