-- how many bits a number has
def pcb : Nat → Nat → Nat
  | 0, _ => 0
  | k + 1, n => n % 2 + pcb k (n / 2)
theorem pcb_zero : ∀ k : Nat, pcb k 0 = 0
  | 0 => rfl
  | k + 1 => by rw [pcb, Nat.zero_div, pcb_zero k]
theorem pcb_more : ∀ (k j n : Nat), n < 2 ^ k → pcb (k + j) n = pcb k n
  | 0, j, n, h => by
    have h0 : n = 0 := by simpa using h
    rw [h0, pcb_zero, pcb_zero]
  | k + 1, j, n, h => by
    rw [show k + 1 + j = (k + j) + 1 by omega, pcb, pcb, pcb_more k j (n / 2) (by rw [Nat.pow_succ] at h; omega)]
theorem pcb_split : ∀ (a b x y : Nat), x < 2 ^ a → pcb (a + b) (x + 2 ^ a * y) = pcb a x + pcb b y
  | 0, b, x, y, h => by
    have h0 : x = 0 := by simpa using h
    rw [h0, Nat.zero_add, Nat.zero_add, Nat.pow_zero, Nat.one_mul, pcb, Nat.zero_add]
  | a + 1, b, x, y, h => by
    have h1 : (x + 2 ^ (a + 1) * y) % 2 = x % 2 := by
      rw [Nat.pow_succ, Nat.mul_assoc, Nat.mul_comm, Nat.mul_assoc]; omega
    have h2 : (x + 2 ^ (a + 1) * y) / 2 = x / 2 + 2 ^ a * y := by
      rw [Nat.pow_succ, Nat.mul_comm (2 ^ a) 2, Nat.mul_assoc]; omega
    rw [show a + 1 + b = (a + b) + 1 by omega, pcb, pcb, h1, h2, pcb_split a b (x / 2) y (by rw [Nat.pow_succ] at h; omega)]
    omega
theorem and_par (a b : Nat) : (a &&& b) % 2 = if a % 2 = 1 ∧ b % 2 = 1 then 1 else 0 := by
  by_cases h : (a &&& b) % 2 = 1
  · rw [if_pos (Nat.and_mod_two_eq_one.mp h), h]
  · rw [if_neg (fun q => h (Nat.and_mod_two_eq_one.mpr q))]; omega
/-- Kernighan's step takes one bit away -/
theorem pcb_kern : ∀ (k n : Nat), 0 < n → n < 2 ^ k → pcb k (n &&& (n - 1)) + 1 = pcb k n
  | 0, n, h0, h => by
    have h1 : n = 0 := by simpa using h
    omega
  | k + 1, n, h0, h => by
    have hd : (n &&& (n - 1)) / 2 = n / 2 &&& (n - 1) / 2 := Nat.and_div_two
    rw [pcb, pcb, hd, and_par]
    rcases Nat.mod_two_eq_zero_or_one n with q | q
    · rw [if_neg (by omega), show (n - 1) / 2 = n / 2 - 1 by omega]
      have := pcb_kern k (n / 2) (by omega) (by rw [Nat.pow_succ] at h; omega)
      omega
    · rw [if_neg (by omega), show (n - 1) / 2 = n / 2 by omega, Nat.and_self]
      omega
def pc (n : Nat) : Nat := pcb 64 n
theorem pc_of {n : Nat} (k : Nat) (hk : k ≤ 64) (h : n < 2 ^ k) : pc n = pcb k n := by
  unfold pc
  rw [show 64 = k + (64 - k) by omega]
  exact pcb_more k (64 - k) n h
theorem pc_0 : pc 0 = 0 := pcb_zero 64
theorem pcb_le : ∀ (k n : Nat), pcb k n ≤ k
  | 0, _ => Nat.le_refl 0
  | k + 1, n => by
    have := pcb_le k (n / 2)
    rw [pcb]; omega
theorem pc_lt {n : Nat} (k : Nat) (hk : k ≤ 64) (h : n < 2 ^ k) : pc n ≤ k := by rw [pc_of k hk h]; exact pcb_le k n
theorem pc_kern {n : Nat} (h0 : 0 < n) (h : n < 2 ^ 64) : pc (n &&& (n - 1)) + 1 = pc n := pcb_kern 64 n h0 h
/-- the model's count -/
theorem size_loop (fu : Nat) (a : Int32) : ∀ (m n c : Nat), n < 2 ^ 31 → pc n < m → m_X1_size_4 fu a m (nI c) (nI n) = some (nI (c + pc n)) := by
  intro m
  induction m with
  | zero => intro n c _ h; omega
  | succ m ih =>
    intro n c hn h
    rw [m_X1_size_4]
    by_cases h0 : n = 0
    · subst h0
      rw [if_pos nI_0, pc_0, Nat.add_zero]
    · have hp : 0 < n := Nat.pos_of_ne_zero h0
      rw [if_neg (nI_ne0 hp hn)]
      have e1 : nI n - 1 = nI (n - 1) := by
        have := nI_pred (n - 1)
        rwa [Nat.sub_add_cancel hp] at this
      have hk := pc_kern hp (Nat.lt_trans hn (by decide))
      rw [e1, fa_and, nI_1, ih (n &&& (n - 1)) (c + 1) (Nat.lt_of_le_of_lt Nat.and_le_left hn) (by omega), show c + 1 + pc (n &&& (n - 1)) = c + pc n by omega]
theorem size_eq {fu n : Nat} (hf : 32 ≤ fu) (hn : n < 2 ^ 31) : m_X1_size fu (nI n) = some (nI (pc n)) := by
  have h := size_loop fu (nI n) fu n 0 hn (Nat.lt_of_le_of_lt (pc_lt 31 (by decide) hn) (by omega))
  rw [m_X1_size, ← nI_0, h, Nat.zero_add]
-- the counts by parallel sums
def mk5 : Nat → Nat | 0 => 0 | k + 1 => 85 + 256 * mk5 k
def mk3 : Nat → Nat | 0 => 0 | k + 1 => 51 + 256 * mk3 k
def mkf : Nat → Nat | 0 => 0 | k + 1 => 15 + 256 * mkf k
def sw1 (M n : Nat) : Nat := n - ((n / 2) &&& M)
def sw2 (M n : Nat) : Nat := (n &&& M) + ((n / 4) &&& M)
def sw3 (M n : Nat) : Nat := (n + n / 16) &&& M
theorem and_cut (n c d : Nat) (hc : c < 256) : n &&& (c + 256 * d) = (n % 256 &&& c) + 256 * (n / 256 &&& d) := by
  apply Nat.eq_of_testBit_eq
  intro i
  have hx : (n % 256 &&& c) < 2 ^ 8 := Nat.lt_of_le_of_lt Nat.and_le_right hc
  have e1 : (c + 256 * d).testBit i = if i < 8 then c.testBit i else d.testBit (i - 8) := by
    rw [Nat.add_comm, show 256 * d = 2 ^ 8 * d from rfl, Nat.testBit_two_pow_mul_add d (i := 8) hc i]
  have e2 : ((n % 256 &&& c) + 256 * (n / 256 &&& d)).testBit i = if i < 8 then (n % 256 &&& c).testBit i else (n / 256 &&& d).testBit (i - 8) := by
    rw [Nat.add_comm, show 256 * (n / 256 &&& d) = 2 ^ 8 * (n / 256 &&& d) from rfl, Nat.testBit_two_pow_mul_add _ (i := 8) hx i]
  rw [e2, Nat.testBit_and, e1]
  by_cases h : i < 8
  · rw [if_pos h, if_pos h, Nat.testBit_and, show 256 = 2 ^ 8 from rfl, Nat.testBit_mod_two_pow]
    simp [h]
  · rw [if_neg h, if_neg h, Nat.testBit_and, show 256 = 2 ^ 8 from rfl, Nat.testBit_div_two_pow, Nat.sub_add_cancel (by omega)]
def sb1 (b : Nat) : Nat := b - ((b / 2) &&& 85)
def sb2 (b : Nat) : Nat := (b &&& 51) + ((b / 4) &&& 51)
theorem sb_d1 : ∀ b : Fin 256, ∀ t : Fin 2, (b.val / 2 + 128 * t.val) &&& 85 = (b.val / 2) &&& 85 := by decide +kernel
theorem sb_d2 : ∀ b : Fin 256, ∀ t : Fin 4, (b.val / 4 + 64 * t.val) &&& 51 = (b.val / 4) &&& 51 := by decide +kernel
theorem sb_d3 : ∀ b : Fin 256, sb2 (sb1 b.val) % 16 ≤ 4 ∧ sb2 (sb1 b.val) / 16 ≤ 4 ∧ sb1 b.val < 256 ∧ (sb2 (sb1 b.val) + sb2 (sb1 b.val) / 16) % 16 = pcb 8 b.val := by decide +kernel
theorem sw1_cut (M n : Nat) : sw1 (85 + 256 * M) n = sb1 (n % 256) + 256 * sw1 M (n / 256) := by
  unfold sw1 sb1
  rw [and_cut (n / 2) 85 M (by decide)]
  have e1 : n / 2 % 256 = n % 256 / 2 + 128 * (n / 256 % 2) := by omega
  have e2 : n / 2 / 256 = n / 256 / 2 := by omega
  rw [e1, e2, sb_d1 ⟨n % 256, Nat.mod_lt _ (by decide)⟩ ⟨n / 256 % 2, Nat.mod_lt _ (by decide)⟩]
  have h1 : (n % 256 / 2 &&& 85) ≤ n % 256 / 2 := Nat.and_le_left
  have h2 : (n / 256 / 2 &&& M) ≤ n / 256 / 2 := Nat.and_le_left
  show n - ((n % 256 / 2 &&& 85) + 256 * (n / 256 / 2 &&& M)) = n % 256 - (n % 256 / 2 &&& 85) + 256 * (n / 256 - (n / 256 / 2 &&& M))
  omega
theorem sw2_cut (M p q : Nat) (hp : p < 256) : sw2 (51 + 256 * M) (p + 256 * q) = sb2 p + 256 * sw2 M q := by
  unfold sw2 sb2
  rw [and_cut (p + 256 * q) 51 M (by decide), and_cut ((p + 256 * q) / 4) 51 M (by decide)]
  have e0 : (p + 256 * q) % 256 = p := by omega
  have e1 : (p + 256 * q) / 256 = q := by omega
  have e2 : (p + 256 * q) / 4 % 256 = p / 4 + 64 * (q % 4) := by omega
  have e3 : (p + 256 * q) / 4 / 256 = q / 4 := by omega
  rw [e0, e1, e2, e3, sb_d2 ⟨p, hp⟩ ⟨q % 4, Nat.mod_lt _ (by decide)⟩]
  show (p &&& 51) + 256 * (q &&& M) + ((p / 4 &&& 51) + 256 * (q / 4 &&& M)) = (p &&& 51) + (p / 4 &&& 51) + 256 * ((q &&& M) + (q / 4 &&& M))
  omega
/-- the bytes' counts -/
def byc : Nat → Nat → Nat
  | 0, _ => 0
  | k + 1, n => pcb 8 (n % 256) + 256 * byc k (n / 256)
theorem sw12_nib : ∀ (k n : Nat), sw2 (mk3 k) (sw1 (mk5 k) n) % 16 ≤ 4
  | 0, n => by simp [mk3, sw2]
  | k + 1, n => by
    have h := sb_d3 ⟨n % 256, Nat.mod_lt _ (by decide)⟩
    rw [mk3, mk5, sw1_cut, sw2_cut _ _ _ h.2.2.1]
    have := h.1
    dsimp only at this
    omega
theorem sw_all : ∀ (k n : Nat), n < 256 ^ k → sw3 (mkf k) (sw2 (mk3 k) (sw1 (mk5 k) n)) = byc k n
  | 0, n, h => by simp [mkf, sw3, byc]
  | k + 1, n, h => by
    have hb := sb_d3 ⟨n % 256, Nat.mod_lt _ (by decide)⟩
    have hn := sw12_nib k (n / 256)
    have ih := sw_all k (n / 256) (by rw [Nat.pow_succ] at h; omega)
    dsimp only at hb
    obtain ⟨h1, h2, h3, h4⟩ := hb
    rw [mk3, mk5, mkf, sw1_cut, sw2_cut _ _ _ h3, byc, ← ih, ← h4]
    generalize sw2 (mk3 k) (sw1 (mk5 k) (n / 256)) = q at hn
    generalize sb2 (sb1 (n % 256)) = p at h1 h2
    unfold sw3
    rw [and_cut _ 15 _ (by decide)]
    have e1 : (p + 256 * q + (p + 256 * q) / 16) % 256 = p + p / 16 + 16 * (q % 16) := by omega
    have e2 : (p + 256 * q + (p + 256 * q) / 16) / 256 = q + q / 16 := by omega
    rw [e1, e2, show (15 : Nat) = 2 ^ 4 - 1 from rfl, Nat.and_two_pow_sub_one_eq_mod]
    have e3 : (p + p / 16 + 16 * (q % 16)) % 2 ^ 4 = (p + p / 16) % 16 := by omega
    rw [e3]
theorem pcb_bytes : ∀ (k n : Nat), pcb (8 * k) n = match k with
    | 0 => 0
    | k + 1 => pcb 8 (n % 256) + pcb (8 * k) (n / 256)
  | 0, _ => rfl
  | k + 1, n => by
    have h := pcb_split 8 (8 * k) (n % 256) (n / 256) (Nat.mod_lt _ (by decide))
    rw [show 8 * (k + 1) = 8 + 8 * k by omega]
    have e : n % 256 + 2 ^ 8 * (n / 256) = n := by omega
    rw [e] at h
    exact h
