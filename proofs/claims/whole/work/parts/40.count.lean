/-! HOW MANY BITS A LONG HAS, as the JDK counts them -/
def zc_dig (f : Nat → Nat) : Nat → Nat
  | 0 => 0
  | n + 1 => f 0 + 256 * zc_dig (fun k => f (k + 1)) n
theorem zc_and {a A m M : Nat} (ha : a < 256) (hm : m < 256) : (a + 256 * A) &&& (m + 256 * M) = (a &&& m) + 256 * (A &&& M) := by
  have h1 := Nat.and_div_two_pow (a := a + 256 * A) (b := m + 256 * M) (n := 8)
  have h2 := Nat.and_mod_two_pow (a := a + 256 * A) (b := m + 256 * M) (n := 8)
  have e : (2 : Nat) ^ 8 = 256 := by decide
  rw [e] at h1 h2
  rw [show (a + 256 * A) / 256 = A by omega, show (m + 256 * M) / 256 = M by omega] at h1
  rw [show (a + 256 * A) % 256 = a by omega, show (m + 256 * M) % 256 = m by omega] at h2
  omega
theorem zc_digA (f : Nat → Nat) (m : Nat) (hm : m < 256) : ∀ (n : Nat) (f : Nat → Nat), (∀ k, k < n → f k < 256) → zc_dig f n &&& zc_dig (fun _ => m) n = zc_dig (fun k => f k &&& m) n
  | 0, _, _ => by
    show 0 &&& 0 = 0
    decide
  | n + 1, f, h => by
    show (f 0 + 256 * zc_dig (fun k => f (k + 1)) n) &&& (m + 256 * zc_dig (fun _ => m) n) = (f 0 &&& m) + 256 * zc_dig (fun k => f (k + 1) &&& m) n
    rw [zc_and (h 0 (by omega)) hm, zc_digA f m hm n (fun k => f (k + 1)) (fun k hk => h (k + 1) (by omega))]
theorem zc_sh {a A m M s : Nat} (ha : a < 256) (hs : s < 8) (hm : m < 2 ^ (8 - s)) : ((a + 256 * A) / 2 ^ s) &&& (m + 256 * M) = (a / 2 ^ s &&& m) + 256 * ((A / 2 ^ s) &&& M) := by
  have hm8 : m < 256 := by
    have : 2 ^ (8 - s) ≤ 2 ^ 8 := Nat.pow_le_pow_right (by decide) (by omega)
    have e : (2 : Nat) ^ 8 = 256 := by decide
    omega
  have e8 : (256 : Nat) = 2 ^ s * 2 ^ (8 - s) := by rw [← Nat.pow_add, show s + (8 - s) = 8 by omega]
  have hp : 0 < 2 ^ s := Nat.two_pow_pos s
  have hq : 0 < 2 ^ (8 - s) := Nat.two_pow_pos _
  have d1 : (a + 256 * A) / 2 ^ s = a / 2 ^ s + 2 ^ (8 - s) * A := by
    rw [e8, Nat.mul_assoc, Nat.add_mul_div_left _ _ hp]
  have la : a / 2 ^ s < 2 ^ (8 - s) := (Nat.div_lt_iff_lt_mul hp).mpr (by rw [Nat.mul_comm, ← e8]; exact ha)
  -- the low byte of it
  have lo : (a / 2 ^ s + 2 ^ (8 - s) * A) % 256 &&& m = a / 2 ^ s &&& m := by
    apply Nat.eq_of_testBit_eq
    intro i
    rw [Nat.testBit_and, Nat.testBit_and]
    rcases Nat.lt_or_ge i (8 - s) with h | h
    · have t : ((a / 2 ^ s + 2 ^ (8 - s) * A) % 256).testBit i = (a / 2 ^ s).testBit i := by
        rw [show (256 : Nat) = 2 ^ 8 from rfl, Nat.testBit_mod_two_pow]
        have i8 : i < 8 := by omega
        rw [decide_eq_true i8, Bool.true_and, Nat.add_comm, Nat.testBit_two_pow_mul_add _ la]
        rw [if_pos h]
      rw [t]
    · have : m.testBit i = false := Nat.testBit_lt_two_pow (Nat.lt_of_lt_of_le hm (Nat.pow_le_pow_right (by decide) h))
      rw [this, Bool.and_false, Bool.and_false]
  have h1 := Nat.and_div_two_pow (a := a / 2 ^ s + 2 ^ (8 - s) * A) (b := m + 256 * M) (n := 8)
  have h2 := Nat.and_mod_two_pow (a := a / 2 ^ s + 2 ^ (8 - s) * A) (b := m + 256 * M) (n := 8)
  have e : (2 : Nat) ^ 8 = 256 := by decide
  rw [e] at h1 h2
  have d2 : (a / 2 ^ s + 2 ^ (8 - s) * A) / 256 = A / 2 ^ s := by
    rw [← d1, Nat.div_div_eq_div_mul, Nat.mul_comm (2 ^ s) 256, ← Nat.div_div_eq_div_mul, show (a + 256 * A) / 256 = A by omega]
  rw [d2, show (m + 256 * M) / 256 = M by omega] at h1
  rw [show (m + 256 * M) % 256 = m by omega, lo] at h2
  rw [d1]
  omega
theorem zc_digS (m s : Nat) (hs : s < 8) (hm : m < 2 ^ (8 - s)) : ∀ (n : Nat) (f : Nat → Nat), (∀ k, k < n → f k < 256) → (zc_dig f n / 2 ^ s) &&& zc_dig (fun _ => m) n = zc_dig (fun k => f k / 2 ^ s &&& m) n
  | 0, f, _ => by
    show (0 / 2 ^ s) &&& 0 = 0
    rw [Nat.and_zero]
  | n + 1, f, h => by
    show ((f 0 + 256 * zc_dig (fun k => f (k + 1)) n) / 2 ^ s) &&& (m + 256 * zc_dig (fun _ => m) n) = (f 0 / 2 ^ s &&& m) + 256 * zc_dig (fun k => f (k + 1) / 2 ^ s &&& m) n
    rw [zc_sh (h 0 (by omega)) hs hm, zc_digS m s hs hm n (fun k => f (k + 1)) (fun k hk => h (k + 1) (by omega))]
theorem zc_digAdd : ∀ (n : Nat) (f g : Nat → Nat), zc_dig f n + zc_dig g n = zc_dig (fun k => f k + g k) n
  | 0, _, _ => rfl
  | n + 1, f, g => by
    have ih := zc_digAdd n (fun k => f (k + 1)) (fun k => g (k + 1))
    show (f 0 + 256 * zc_dig (fun k => f (k + 1)) n) + (g 0 + 256 * zc_dig (fun k => g (k + 1)) n) = (f 0 + g 0) + 256 * zc_dig (fun k => f (k + 1) + g (k + 1)) n
    omega
theorem zc_digSub : ∀ (n : Nat) (f g : Nat → Nat), (∀ k, k < n → g k ≤ f k) → zc_dig f n - zc_dig g n = zc_dig (fun k => f k - g k) n ∧ zc_dig g n ≤ zc_dig f n
  | 0, _, _, _ => ⟨rfl, Nat.le_refl _⟩
  | n + 1, f, g, h => by
    obtain ⟨i1, i2⟩ := zc_digSub n (fun k => f (k + 1)) (fun k => g (k + 1)) (fun k hk => h (k + 1) (by omega))
    have h0 := h 0 (by omega)
    constructor
    · show (f 0 + 256 * zc_dig (fun k => f (k + 1)) n) - (g 0 + 256 * zc_dig (fun k => g (k + 1)) n) = (f 0 - g 0) + 256 * zc_dig (fun k => f (k + 1) - g (k + 1)) n
      omega
    · show g 0 + 256 * zc_dig (fun k => g (k + 1)) n ≤ f 0 + 256 * zc_dig (fun k => f (k + 1)) n
      omega
theorem zc_of : ∀ (n x : Nat), x < 256 ^ n → zc_dig (fun k => x / 256 ^ k % 256) n = x
  | 0, x, h => by
    have : x = 0 := by
      have e : (256 : Nat) ^ 0 = 1 := rfl
      omega
    subst this; rfl
  | n + 1, x, h => by
    have ih := zc_of n (x / 256) (by rw [Nat.pow_succ] at h; exact (Nat.div_lt_iff_lt_mul (by decide)).mpr h)
    show x / 256 ^ 0 % 256 + 256 * zc_dig (fun k => x / 256 ^ (k + 1) % 256) n = x
    have e : (fun k => x / 256 ^ (k + 1) % 256) = (fun k => x / 256 / 256 ^ k % 256) := by
      funext k
      rw [Nat.pow_succ, Nat.mul_comm, Nat.div_div_eq_div_mul]
    rw [e, ih, Nat.pow_zero, Nat.div_one]
    omega
abbrev zc_s1 (b : Nat) : Nat := b - (b / 2 ^ 1 &&& 85)
abbrev zc_s2 (b : Nat) : Nat := (zc_s1 b &&& 51) + (zc_s1 b / 2 ^ 2 &&& 51)
theorem zc_b1 : ∀ b, b < 256 → (b / 2 ^ 1 &&& 85) ≤ b ∧ zc_s1 b < 256 ∧ zc_s2 b < 256 ∧ (zc_s2 b + zc_s2 b / 2 ^ 4 < 256) ∧ zc_s2 b % 16 ≤ 4 ∧ zc_s2 b / 16 ≤ 4 ∧ zc_s2 b % 16 + zc_s2 b / 16 = fb_ct b.testBit 8 := by decide +kernel
/-- nibbles, at most 4 each: their sum in each byte -/
theorem zc_nib {a A M : Nat} (h1 : a % 16 ≤ 4) (h2 : a / 16 ≤ 4) (hA : A % 16 ≤ 4) : ((a + 256 * A) + (a + 256 * A) / 16) &&& (15 + 256 * M) = (a % 16 + a / 16) + 256 * ((A + A / 16) &&& M) := by
  have q : (a + 256 * A) + (a + 256 * A) / 16 = (a + a / 16 + 16 * (A % 16)) + 256 * (A + A / 16) := by omega
  have lt : a + a / 16 + 16 * (A % 16) < 256 := by omega
  rw [q, zc_and lt (by decide)]
  have : (a + a / 16 + 16 * (A % 16)) &&& 15 = a % 16 + a / 16 := by
    rw [show (15 : Nat) = 2 ^ 4 - 1 from rfl, Nat.and_two_pow_sub_one_eq_mod]
    omega
  rw [this]
theorem zc_digN : ∀ (n : Nat) (f : Nat → Nat), (∀ k, f k % 16 ≤ 4 ∧ f k / 16 ≤ 4 ∧ f k < 256) → zc_dig f n % 16 ≤ 4 ∧ (zc_dig f n + zc_dig f n / 16) &&& zc_dig (fun _ => 15) n = zc_dig (fun k => f k % 16 + f k / 16) n
  | 0, f, _ => ⟨by show 0 % 16 ≤ 4; decide, by show (0 + 0 / 16) &&& 0 = 0; decide⟩
  | n + 1, f, h => by
    obtain ⟨i1, i2⟩ := zc_digN n (fun k => f (k + 1)) (fun k => h (k + 1))
    have h0 := h 0
    constructor
    · show (f 0 + 256 * zc_dig (fun k => f (k + 1)) n) % 16 ≤ 4
      omega
    · show ((f 0 + 256 * zc_dig (fun k => f (k + 1)) n) + (f 0 + 256 * zc_dig (fun k => f (k + 1)) n) / 16) &&& (15 + 256 * zc_dig (fun _ => 15) n) = (f 0 % 16 + f 0 / 16) + 256 * zc_dig (fun k => f (k + 1) % 16 + f (k + 1) / 16) n
      rw [zc_nib h0.1 h0.2.1 i1, i2]
def zc_sm (f : Nat → Nat) : Nat → Nat
  | 0 => 0
  | n + 1 => zc_sm f n + f n
theorem zc_sm_succ (f : Nat → Nat) (n : Nat) : zc_sm f (n + 1) = zc_sm f n + f n := rfl
theorem zc_ct8 (x : Nat) : ∀ n, fb_ct x.testBit (8 * n) = zc_sm (fun k => fb_ct (x / 256 ^ k % 256).testBit 8) n
  | 0 => rfl
  | n + 1 => by
    rw [zc_sm_succ, ← zc_ct8 x n, show 8 * (n + 1) = 8 * n + 8 by omega, fb_ct_split]
    congr 1
    refine fb_ct_cong (fun k hk => ?_)
    rw [show (256 : Nat) = 2 ^ 8 from rfl, ← Nat.pow_mul, Nat.testBit_mod_two_pow, decide_eq_true hk, Bool.true_and, Nat.testBit_div_two_pow, Nat.add_comm]
/-- the whole count, on Nat -/
def zc_pop (x : Nat) : Nat :=
  let a := x - (x / 2 &&& 6148914691236517205)
  let b := (a &&& 3689348814741910323) + (a / 4 &&& 3689348814741910323)
  let d := (b + b / 16) &&& 1085102592571150095
  let e := d + d / 256
  let f := e + e / 65536
  let g := f + f / 4294967296
  g % 128
theorem zc_fin {p0 p1 p2 p3 p4 p5 p6 p7 d e f g : Nat} (h0 : p0 ≤ 8) (h1 : p1 ≤ 8) (h2 : p2 ≤ 8) (h3 : p3 ≤ 8) (h4 : p4 ≤ 8) (h5 : p5 ≤ 8) (h6 : p6 ≤ 8) (h7 : p7 ≤ 8)
    (hd : d = p0 + 256 * (p1 + 256 * (p2 + 256 * (p3 + 256 * (p4 + 256 * (p5 + 256 * (p6 + 256 * (p7 + 256 * 0)))))))) (he : e = d + d / 256) (hf : f = e + e / 65536) (hg : g = f + f / 4294967296) : g % 128 = p0 + p1 + p2 + p3 + p4 + p5 + p6 + p7 := by
  have x7 : ∃ r, r = p7 + 256 * 0 := ⟨_, rfl⟩
  obtain ⟨r7, e7⟩ := x7
  rw [← e7] at hd
  have x6 : ∃ r, r = p6 + 256 * r7 := ⟨_, rfl⟩
  obtain ⟨r6, e6⟩ := x6
  rw [← e6] at hd
  have x5 : ∃ r, r = p5 + 256 * r6 := ⟨_, rfl⟩
  obtain ⟨r5, e5⟩ := x5
  rw [← e5] at hd
  have x4 : ∃ r, r = p4 + 256 * r5 := ⟨_, rfl⟩
  obtain ⟨r4, e4⟩ := x4
  rw [← e4] at hd
  have x3 : ∃ r, r = p3 + 256 * r4 := ⟨_, rfl⟩
  obtain ⟨r3, e3⟩ := x3
  rw [← e3] at hd
  have x2 : ∃ r, r = p2 + 256 * r3 := ⟨_, rfl⟩
  obtain ⟨r2, e2⟩ := x2
  rw [← e2] at hd
  have x1 : ∃ r, r = p1 + 256 * r2 := ⟨_, rfl⟩
  obtain ⟨r1, e1⟩ := x1
  rw [← e1] at hd
  have q1 : d / 256 = r1 := by clear e1 e2 e3 e4 e5 e6 e7 he hf hg; omega
  have q2 : e = (p0 + p1) + 256 * (p1 + p2) + 65536 * (r2 + r3) := by rw [he, q1]; clear e3 e4 e5 e6 e7 he hf hg q1; omega
  have q3 : e / 65536 = r2 + r3 := by rw [q2]; clear e1 e2 e3 e4 e5 e6 e7 he hf hg hd q1 q2; omega
  have q4 : r2 + r3 = (p2 + p3) + 256 * (p3 + p4) + 65536 * (r4 + r5) := by clear e1 e5 e6 e7 he hf hg hd q1 q2 q3; omega
  have q5 : f = (p0 + p1 + p2 + p3) + 256 * (p1 + p2 + p3 + p4) + 65536 * ((r2 + r3) + (r4 + r5)) := by rw [hf, q3, q2]; clear e1 e2 e3 e4 e5 e6 e7 he hf hg hd q1 q2 q3; omega
  have q6 : r4 + r5 = (p4 + p5) + 256 * (p5 + p6) + 65536 * (r6 + r7) := by clear e1 e2 e3 e7 he hf hg hd q1 q2 q3 q4 q5; omega
  have q7 : f = (p0 + p1 + p2 + p3) + 256 * (p1 + p2 + p3 + p4) + 65536 * (p2 + p3 + p4 + p5) + 16777216 * (p3 + p4 + p5 + p6) + 4294967296 * ((r4 + r5) + (r6 + r7)) := by rw [q5, q4]; clear e1 e2 e3 e4 e5 e6 e7 he hf hg hd q1 q2 q3 q4 q5; omega
  have q8 : f / 4294967296 = (r4 + r5) + (r6 + r7) := by rw [q7]; clear e1 e2 e3 e4 e5 e6 e7 he hf hg hd q1 q2 q3 q4 q5 q6 q7; omega
  have q9 : g = (p0 + p1 + p2 + p3 + p4 + p5 + p6 + p7) + 128 * (2 * (p1 + p2 + p3 + p4) + 512 * (p2 + p3 + p4 + p5) + 131072 * (p3 + p4 + p5 + p6) + 33554432 * ((r4 + r5) + (r6 + r7)) + 2 * (p5 + p6) + 512 * (r6 + r7) + 2 * r7) := by
    rw [hg, q8, q7]; clear e1 e2 e3 e4 e5 he hf hg hd q1 q2 q3 q4 q5 q7 q8; omega
  rw [q9]; clear e1 e2 e3 e4 e5 e6 e7 he hf hg hd q1 q2 q3 q4 q5 q6 q7 q8 q9; omega
theorem zc_popq (x : Nat) (hx : x < 2 ^ 64) : zc_pop x = fb_ct x.testBit 64 := by
  have by8 : ∀ k, x / 256 ^ k % 256 < 256 := fun k => Nat.mod_lt _ (by decide)
  have ex := zc_of 8 x (by have e : (256 : Nat) ^ 8 = 2 ^ 64 := by decide
                           omega)
  have m1 : zc_dig (fun _ => 85) 8 = 6148914691236517205 := by decide
  have m2 : zc_dig (fun _ => 51) 8 = 3689348814741910323 := by decide
  have m3 : zc_dig (fun _ => 15) 8 = 1085102592571150095 := by decide
  have a1 : x - (x / 2 &&& 6148914691236517205) = zc_dig (fun k => zc_s1 (x / 256 ^ k % 256)) 8 := by
    have s := zc_digS 85 1 (by decide) (by decide) 8 (fun k => x / 256 ^ k % 256) (fun k _ => by8 k)
    rw [ex, m1] at s
    have s' : x / 2 &&& 6148914691236517205 = zc_dig (fun k => x / 256 ^ k % 256 / 2 ^ 1 &&& 85) 8 := s
    rw [s']
    have t := (zc_digSub 8 (fun k => x / 256 ^ k % 256) (fun k => x / 256 ^ k % 256 / 2 ^ 1 &&& 85) (fun k _ => (zc_b1 _ (by8 k)).1)).1
    rw [ex] at t
    exact t
  have b1 : (x - (x / 2 &&& 6148914691236517205) &&& 3689348814741910323) + ((x - (x / 2 &&& 6148914691236517205)) / 4 &&& 3689348814741910323) = zc_dig (fun k => zc_s2 (x / 256 ^ k % 256)) 8 := by
    rw [a1]
    have s := zc_digS 51 2 (by decide) (by decide) 8 (fun k => zc_s1 (x / 256 ^ k % 256)) (fun k _ => (zc_b1 _ (by8 k)).2.1)
    have u := zc_digA (fun _ => 0) 51 (by decide) 8 (fun k => zc_s1 (x / 256 ^ k % 256)) (fun k _ => (zc_b1 _ (by8 k)).2.1)
    rw [m2] at s u
    have s' : zc_dig (fun k => zc_s1 (x / 256 ^ k % 256)) 8 / 4 &&& 3689348814741910323 = zc_dig (fun k => zc_s1 (x / 256 ^ k % 256) / 2 ^ 2 &&& 51) 8 := s
    rw [s', u, zc_digAdd]
  have d1 := (zc_digN 8 (fun k => zc_s2 (x / 256 ^ k % 256)) (fun k => ⟨(zc_b1 _ (by8 k)).2.2.2.2.1, (zc_b1 _ (by8 k)).2.2.2.2.2.1, (zc_b1 _ (by8 k)).2.2.1⟩)).2
  rw [m3] at d1
  have pk : ∀ k, zc_s2 (x / 256 ^ k % 256) % 16 + zc_s2 (x / 256 ^ k % 256) / 16 = fb_ct (x / 256 ^ k % 256).testBit 8 := fun k => (zc_b1 _ (by8 k)).2.2.2.2.2.2
  have ct := zc_ct8 x 8
  have le8 : ∀ k, fb_ct (x / 256 ^ k % 256).testBit 8 ≤ 8 := fun k => fb_ct_le _ 8
  have d2 : ((zc_dig (fun k => zc_s2 (x / 256 ^ k % 256)) 8) + (zc_dig (fun k => zc_s2 (x / 256 ^ k % 256)) 8) / 16) &&& 1085102592571150095 = zc_dig (fun k => fb_ct (x / 256 ^ k % 256).testBit 8) 8 := by
    rw [d1]
    congr 1
    funext k
    exact pk k
  show (let a := x - (x / 2 &&& 6148914691236517205); let b := (a &&& 3689348814741910323) + (a / 4 &&& 3689348814741910323); let d := (b + b / 16) &&& 1085102592571150095; let e := d + d / 256; let f := e + e / 65536; let g := f + f / 4294967296; g % 128) = _
  dsimp only
  rw [b1, d2]
  have fin := zc_fin (le8 0) (le8 1) (le8 2) (le8 3) (le8 4) (le8 5) (le8 6) (le8 7) (d := zc_dig (fun k => fb_ct (x / 256 ^ k % 256).testBit 8) 8) rfl rfl rfl rfl
  rw [fin]
  have ct' : fb_ct x.testBit 64 = _ := ct
  rw [ct']
  simp only [zc_sm, Nat.zero_add]
theorem zc_wb (x : Int64) : ∃ n, n < 2 ^ 64 ∧ x = lN n := ⟨x.toBitVec.toNat, x.toBitVec.isLt, by
  apply Int64.toBitVec_inj.mp
  apply BitVec.eq_of_toNat_eq
  show x.toBitVec.toNat = (Int64.ofNat x.toBitVec.toNat).toBitVec.toNat
  rw [Int64.toBitVec_ofNat', BitVec.toNat_ofNat, Nat.mod_eq_of_lt x.toBitVec.isLt]⟩
theorem zc_tn {n : Nat} (h : n < 2 ^ 64) : (lN n).toBitVec.toNat = n := by
  show (Int64.ofNat n).toBitVec.toNat = n
  rw [Int64.toBitVec_ofNat', BitVec.toNat_ofNat, Nat.mod_eq_of_lt h]
theorem zc_inj {a : Int64} {n : Nat} (h : a.toBitVec.toNat = n) : a = lN n := by
  apply Int64.toBitVec_inj.mp
  apply BitVec.eq_of_toNat_eq
  have : n < 2 ^ 64 := by rw [← h]; exact a.toBitVec.isLt
  rw [zc_tn this, h]
theorem zc_ushr {n : Nat} (h : n < 2 ^ 64) {y : UInt64} {k : Nat} (hy : y.toNat = k) (hk : k < 64) : ((lN n).toUInt64 >>> y).toInt64 = lN (n / 2 ^ k) := by
  apply zc_inj
  show ((lN n).toUInt64 >>> y).toNat = n / 2 ^ k
  rw [UInt64.toNat_shiftRight, hy, Nat.mod_eq_of_lt hk, Nat.shiftRight_eq_div_pow]
  congr 1
  exact zc_tn h
theorem zc_andL {a b : Nat} (ha : a < 2 ^ 64) (hb : b < 2 ^ 64) : lN a &&& lN b = lN (a &&& b) := by
  apply zc_inj
  rw [Int64.toBitVec_and, BitVec.toNat_and, zc_tn ha, zc_tn hb]
theorem zc_lit (n : Nat) : (OfNat.ofNat n : Int64) = lN n := rfl
/-- the JDK's count is the count -/
theorem zc_bit (x : Int64) (hw : zs_w x) : j_J13_bitCount_95d88 x = nI (zs_ct x) := by
  obtain ⟨n, hn, e⟩ := zc_wb x
  have pq := zc_popq n hn
  have ct : zs_ct x = fb_ct n.testBit 64 := by
    rw [← zs_ct64 hw]
    refine fb_ct_cong (fun c _ => ?_)
    unfold zs_in
    rw [e, ← BitVec.testBit_toNat, zc_tn hn]
  rw [ct, ← pq]
  have le1 : n / 2 &&& 6148914691236517205 ≤ n := Nat.le_trans Nat.and_le_left (Nat.div_le_self _ _)
  have le2 : ∀ y m : Nat, m < 2 ^ 62 → (y &&& m) < 2 ^ 62 := fun y m hm => Nat.lt_of_le_of_lt Nat.and_le_right hm
  unfold j_J13_bitCount_95d88
  rw [e]
  have s1 : ((1 : Int32).toInt64.toUInt64 &&& Int64.toUInt64 63).toNat = 1 := by decide
  have s2 : ((2 : Int32).toInt64.toUInt64 &&& Int64.toUInt64 63).toNat = 2 := by decide
  have s4 : ((4 : Int32).toInt64.toUInt64 &&& Int64.toUInt64 63).toNat = 4 := by decide
  have s8 : ((8 : Int32).toInt64.toUInt64 &&& Int64.toUInt64 63).toNat = 8 := by decide
  have s16 : ((16 : Int32).toInt64.toUInt64 &&& Int64.toUInt64 63).toNat = 16 := by decide
  have s32 : ((32 : Int32).toInt64.toUInt64 &&& Int64.toUInt64 63).toNat = 32 := by decide
  have m1 : (6148914691236517205 : Int64) = lN 6148914691236517205 := rfl
  have m2 : (3689348814741910323 : Int64) = lN 3689348814741910323 := rfl
  have m3 : (1085102592571150095 : Int64) = lN 1085102592571150095 := rfl
  rw [m1, m2, m3]
  rw [zc_ushr hn s1 (by decide), zc_andL (Nat.lt_of_le_of_lt (Nat.div_le_self _ _) hn) (by decide), show (2 : Nat) ^ 1 = 2 from rfl, lN_sub le1]
  have ha : n - (n / 2 &&& 6148914691236517205) < 2 ^ 64 := by omega
  generalize hA : n - (n / 2 &&& 6148914691236517205) = a at ha ⊢
  rw [zc_ushr ha s2 (by decide), zc_andL ha (by decide), zc_andL (Nat.lt_of_le_of_lt (Nat.div_le_self _ _) ha) (by decide), show (2 : Nat) ^ 2 = 4 from rfl, lN_add]
  have b1 := le2 a 3689348814741910323 (by decide)
  have b2 := le2 (a / 4) 3689348814741910323 (by decide)
  have hb : (a &&& 3689348814741910323) + (a / 4 &&& 3689348814741910323) < 2 ^ 63 := by omega
  generalize hB : (a &&& 3689348814741910323) + (a / 4 &&& 3689348814741910323) = b at hb ⊢
  rw [zc_ushr (by omega) s4 (by decide), show (2 : Nat) ^ 4 = 16 from rfl, lN_add, zc_andL (by omega) (by decide)]
  have d1 := le2 (b + b / 16) 1085102592571150095 (by decide)
  generalize hD : (b + b / 16) &&& 1085102592571150095 = d at d1 ⊢
  rw [zc_ushr (by omega) s8 (by decide), show (2 : Nat) ^ 8 = 256 from rfl, lN_add]
  have he : d + d / 256 < 2 ^ 63 := by omega
  generalize hE : d + d / 256 = e' at he ⊢
  rw [zc_ushr (by omega) s16 (by decide), show (2 : Nat) ^ 16 = 65536 from rfl, lN_add]
  have hf : e' + e' / 65536 < 2 ^ 64 := by omega
  generalize hF : e' + e' / 65536 = f at hf ⊢
  rw [zc_ushr hf s32 (by decide), show (2 : Nat) ^ 32 = 4294967296 from rfl, lN_add, lN_i]
  have pp : zc_pop n = (f + f / 4294967296) % 128 := by
    unfold zc_pop
    dsimp only
    rw [hA, hB, hD, hE, hF]
  rw [pp, pk_and (nI (f + f / 4294967296)) 7 (by decide)]
  congr 1
  show (Int32.ofNat (f + f / 4294967296)).toBitVec.toNat % 128 = _
  rw [Int32.toBitVec_ofNat', BitVec.toNat_ofNat]
  omega
