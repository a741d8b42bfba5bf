/-! strings: logarithms of whole numbers grow, those of products of powers of small primes with them -/
theorem jyd_le {x y a b a2 b2 : Nat} (hb : 0 < b) (hb2 : 0 < b2) (h : a * b2 ≤ a2 * b) (hxy : x ≤ y) : x * a / b ≤ y * a2 / b2 := by
  rw [Nat.le_div_iff_mul_le hb2]
  have h1 : x * a / b * b ≤ x * a := Nat.div_mul_le_self _ _
  generalize x * a / b = w at h1 ⊢
  have h2 : w * b * b2 ≤ x * a * b2 := Nat.mul_le_mul_right _ h1
  have h3 : x * (a * b2) ≤ y * (a2 * b) := Nat.mul_le_mul hxy h
  rw [← Nat.mul_assoc, ← Nat.mul_assoc] at h3
  have h4 : w * b2 * b ≤ y * a2 * b := by
    rw [Nat.mul_right_comm w b2 b]
    exact Nat.le_trans h2 h3
  exact Nat.le_of_mul_le_mul_right h4 hb
theorem jyd_r {x y k : Nat} (h : x ≤ y) : x / k ≤ y / k := by
  rcases Nat.eq_zero_or_pos k with h0 | h0
  · subst h0
    rw [Nat.div_zero]
    exact Nat.zero_le _
  · rw [Nat.le_div_iff_mul_le h0]
    exact Nat.le_trans (Nat.div_mul_le_self _ _) h
theorem jyF_z {a b q k s : Nat} : jatF a b (q + 1) k 0 s = s := if_pos rfl
theorem jyF_n {a b q k t s : Nat} (h : t ≠ 0) : jatF a b (q + 1) k t s = jatF a b q (k + 2) (t * a / b * a / b) (s + t * a / b * a / b / k) := if_neg h
theorem jyF_s {a b : Nat} : ∀ (q k t s : Nat), s ≤ jatF a b q k t s
  | 0, _, _, s => Nat.le_refl s
  | q + 1, k, t, s => by
    rcases Nat.eq_zero_or_pos t with h | h
    · subst h
      rw [jyF_z]
      exact Nat.le_refl s
    · rw [jyF_n (by omega)]
      exact Nat.le_trans (Nat.le_add_right _ _) (jyF_s q (k + 2) _ _)
theorem jyF_le {a b a2 b2 g : Nat} (hb : 0 < b) (hb2 : 0 < b2) (h : a * b2 ≤ a2 * b) : ∀ (q k t s t2 s2 : Nat), t ≤ t2 → s + g ≤ s2 → jatF a b q k t s + g ≤ jatF a2 b2 q k t2 s2
  | 0, _, _, _, _, _, _, hs => hs
  | q + 1, k, t, s, t2, s2, ht, hs => by
    rcases Nat.eq_zero_or_pos t with h0 | h0
    · subst h0
      rw [jyF_z]
      exact Nat.le_trans hs (jyF_s (q + 1) k t2 s2)
    · rw [jyF_n (show t ≠ 0 by omega), jyF_n (show t2 ≠ 0 by omega)]
      have h1 := jyd_le hb hb2 h (jyd_le hb hb2 h ht)
      have h2 : t * a / b * a / b / k ≤ t2 * a2 / b2 * a2 / b2 / k := jyd_r h1
      refine jyF_le hb hb2 h q (k + 2) _ _ _ _ h1 ?_
      generalize t * a / b * a / b / k = u at h2 ⊢
      generalize t2 * a2 / b2 * a2 / b2 / k = v at h2 ⊢
      omega
def jyB (B a b : Nat) : Nat := jatF a b 200 3 (B * a / b) (B * a / b)
theorem jy_at (a b : Nat) : jat a b = jyB (1000000000 ^ 21) a b := rfl
theorem jyB_gap {B g a b a2 b2 : Nat} (hb : 0 < b) (hb2 : 0 < b2) (h : a * b2 + 1 ≤ a2 * b) (hg : g * (b * b2) ≤ B) : jyB B a b + g ≤ jyB B a2 b2 := by
  have h0 : B * a / b + g ≤ B * a2 / b2 := by
    rw [Nat.le_div_iff_mul_le hb2]
    have h1 : B * a / b * b ≤ B * a := Nat.div_mul_le_self _ _
    generalize B * a / b = x at h1 ⊢
    have h2 : x * b * b2 ≤ B * a * b2 := Nat.mul_le_mul_right _ h1
    have h3 : B * (a * b2 + 1) ≤ B * (a2 * b) := Nat.mul_le_mul_left _ h
    rw [Nat.mul_add, Nat.mul_one, ← Nat.mul_assoc, ← Nat.mul_assoc] at h3
    have e1 : (x + g) * b2 * b = x * b * b2 + g * (b * b2) := by
      rw [Nat.add_mul, Nat.add_mul, Nat.mul_right_comm x b2 b, Nat.mul_assoc g b2 b, Nat.mul_comm b2 b]
    have h4 : (x + g) * b2 * b ≤ B * a2 * b := by
      rw [e1]
      generalize x * b * b2 = z1 at h2 ⊢
      generalize g * (b * b2) = z2 at hg ⊢
      generalize B * a * b2 = z3 at h2 h3
      generalize B * a2 * b = z4 at h3 ⊢
      omega
    exact Nat.le_of_mul_le_mul_right h4 hb
  exact jyF_le hb hb2 (Nat.le_trans (Nat.le_add_right _ _) h) 200 3 _ _ _ _ (Nat.le_trans (Nat.le_add_right _ _) h0) h0
theorem jyB_le {B a b a2 b2 : Nat} (hb : 0 < b) (hb2 : 0 < b2) (h : a * b2 ≤ a2 * b) : jyB B a b ≤ jyB B a2 b2 :=
  jyF_le (g := 0) hb hb2 h 200 3 _ _ _ _ (jyd_le hb hb2 h (Nat.le_refl B)) (jyd_le hb hb2 h (Nat.le_refl B))
/-- the logarithm of a whole number, as it is reckoned from the power of 2 beneath it -/
def jyl (B n : Nat) : Nat := n.log2 * (2 * jyB B 1 3) + 2 * jyB B (n - 2 ^ n.log2) (n + 2 ^ n.log2)
theorem jyl_gap {B g m n : Nat} (hm : 1 ≤ m) (hmn : m < n) (hn : n < 1073741824) (hg : g * 4611686018427387904 ≤ B) : jyl B m + 2 * g ≤ jyl B n := by
  obtain ⟨m1, m2⟩ := (Nat.log2_eq_iff (show m ≠ 0 by omega)).mp rfl
  obtain ⟨n1, n2⟩ := (Nat.log2_eq_iff (show n ≠ 0 by omega)).mp rfl
  unfold jyl
  generalize m.log2 = k at m1 m2 ⊢
  generalize n.log2 = l at n1 n2 ⊢
  have hkl : k ≤ l := by
    rcases Nat.lt_or_ge l k with h | h
    · have h2 : 2 ^ (l + 1) ≤ 2 ^ k := Nat.pow_le_pow_right (by decide) h
      generalize 2 ^ (l + 1) = z1 at h2 n2
      generalize 2 ^ k = z2 at h2 m1
      omega
    · exact h
  rw [Nat.pow_succ] at m2 n2
  rcases Nat.lt_or_eq_of_le hkl with h | h
  · have h3 : jyB B (m - 2 ^ k) (m + 2 ^ k) + g ≤ jyB B 1 3 := by
      generalize 2 ^ k = P at m1 m2 ⊢
      refine jyB_gap (by omega) (by decide) (by omega) (Nat.le_trans (Nat.mul_le_mul_left _ (by omega)) hg)
    have h4 : (k + 1) * (2 * jyB B 1 3) ≤ l * (2 * jyB B 1 3) := Nat.mul_le_mul_right _ h
    rw [Nat.add_mul, Nat.one_mul] at h4
    generalize l * (2 * jyB B 1 3) = z1 at h4 ⊢
    generalize k * (2 * jyB B 1 3) = z2 at h4 ⊢
    generalize jyB B 1 3 = z3 at h3 h4 ⊢
    generalize jyB B (m - 2 ^ k) (m + 2 ^ k) = z4 at h3 ⊢
    omega
  · subst h
    have h3 : jyB B (m - 2 ^ k) (m + 2 ^ k) + g ≤ jyB B (n - 2 ^ k) (n + 2 ^ k) := by
      generalize 2 ^ k = P at m1 m2 n1 n2 ⊢
      refine jyB_gap (by omega) (by omega) ?_ (Nat.le_trans (Nat.mul_le_mul_left _ (Nat.le_trans (Nat.mul_le_mul (show m + P ≤ 2147483648 by omega) (show n + P ≤ 2147483648 by omega)) (by decide))) hg)
      obtain ⟨i, rfl⟩ := Nat.exists_eq_add_of_le m1
      obtain ⟨j, rfl⟩ := Nat.exists_eq_add_of_le n1
      rw [Nat.add_sub_cancel_left, Nat.add_sub_cancel_left]
      have h5 : (i + 1) * P ≤ j * P := Nat.mul_le_mul_right _ (by omega)
      rw [Nat.add_mul, Nat.one_mul] at h5
      rw [Nat.mul_add, Nat.mul_add, Nat.mul_add, Nat.mul_add, Nat.mul_comm i j]
      generalize i * P = z1 at h5 ⊢
      generalize j * P = z2 at h5 ⊢
      generalize j * i = z3
      omega
    generalize k * (2 * jyB B 1 3) = z2
    generalize jyB B (m - 2 ^ k) (m + 2 ^ k) = z4 at h3 ⊢
    generalize jyB B (n - 2 ^ k) (n + 2 ^ k) = z5 at h3 ⊢
    omega
/-- the reference's logarithm of a whole number -/
def jln (n : Int) : Int := ((jyl (1000000000 ^ 21) n.toNat : Nat) : Int)
theorem jln_lt {m n : Int} (h1 : 1 ≤ m) (h2 : m < n) (h3 : n ≤ 1000000000) : jln m < jln n := by
  have h := jyl_gap (B := 1000000000 ^ 21) (g := 1) (m := m.toNat) (n := n.toNat) (by omega) (by omega) (by omega) (by decide)
  show ((jyl (1000000000 ^ 21) m.toNat : Nat) : Int) < ((jyl (1000000000 ^ 21) n.toNat : Nat) : Int)
  generalize jyl (1000000000 ^ 21) m.toNat = x at h ⊢
  generalize jyl (1000000000 ^ 21) n.toNat = y at h ⊢
  omega
theorem jln_1 : jln 1 = 0 := by decide +kernel
theorem jln_2 : jln 2 = jlg 0 := by decide +kernel
theorem jln_m : (jln 1000000000).natAbs < 10 ^ 200 := by decide +kernel
theorem jln_p {n : Int} (h1 : 2 ≤ n) (h2 : n ≤ 1000000000) : 0 < jln n := by
  have h := jln_lt (m := 1) (n := n) (by decide) (by omega) h2
  rw [jln_1] at h
  exact h
theorem jln_le {m n : Int} (h1 : 1 ≤ m) (h2 : m ≤ n) (h3 : n ≤ 1000000000) : jln m ≤ jln n := by
  rcases Int.lt_or_eq_of_le h2 with h | h
  · exact Int.le_of_lt (jln_lt h1 h h3)
  · rw [h]; exact Int.le_refl _
theorem jln_b {n : Int} (h1 : 1 ≤ n) (h2 : n ≤ 1000000000) : 0 ≤ jln n ∧ (jln n).natAbs < 10 ^ 200 := by
  have h3 := jln_le (m := 1) (n := n) (by decide) h1 h2
  have h4 := jln_le (m := n) (n := 1000000000) h1 h2 (by decide)
  have h5 := jln_m
  rw [jln_1] at h3
  generalize jln n = x at h3 h4 ⊢
  generalize jln 1000000000 = y at h4 h5
  generalize 10 ^ 200 = z at h5 ⊢
  omega
theorem jln_k {n : Int} {k p : Nat} (hp : 2 ^ k = p) (h1 : (p : Int) ≤ n) (h2 : n < 2 * (p : Int)) : jln n = (k : Int) * jlg 0 + (((jat (n - (p : Int)).toNat (n + (p : Int)).toNat : Nat) : Int) + ((jat (n - (p : Int)).toNat (n + (p : Int)).toNat : Nat) : Int)) := by
  have hp0 : 0 < p := by
    rw [← hp]
    exact Nat.pow_pos (by decide)
  have hn : n.toNat.log2 = k := (Nat.log2_eq_iff (by omega)).mpr ⟨by rw [hp]; omega, by rw [Nat.pow_succ, hp]; omega⟩
  have e1 : (n - (p : Int)).toNat = n.toNat - p := by omega
  have e2 : (n + (p : Int)).toNat = n.toNat + p := by omega
  have e3 : jlg 0 = 2 * ((jyB (1000000000 ^ 21) 1 3 : Nat) : Int) := rfl
  rw [e1, e2, jy_at, e3]
  unfold jln jyl
  rw [hn, hp]
  generalize jyB (1000000000 ^ 21) 1 3 = x
  generalize jyB (1000000000 ^ 21) (n.toNat - p) (n.toNat + p) = y
  have e4 : ((k * (2 * x) + 2 * y : Nat) : Int) = (k : Int) * (2 * (x : Int)) + 2 * (y : Int) := by
    rw [Int.natCast_add, Int.natCast_mul, Int.natCast_mul, Int.natCast_mul]
    first | done | rfl
  rw [e4]
  generalize (k : Int) * (2 * (x : Int)) = z
  omega
theorem jln_k0 {n : Int} {k p : Nat} (hp : 2 ^ k = p) (h1 : n = (p : Int)) : jln n = (k : Int) * jlg 0 := by
  have hp0 : 0 < p := by
    rw [← hp]
    exact Nat.pow_pos (by decide)
  rw [jln_k hp (by omega) (by omega), show (n - (p : Int)).toNat = 0 by omega]
  have e : jat 0 (n + (p : Int)).toNat = 0 := by
    rw [jy_at]
    show jatF 0 _ 200 3 (1000000000 ^ 21 * 0 / _) (1000000000 ^ 21 * 0 / _) = 0
    rw [Nat.mul_zero, Nat.zero_div]
    exact jyF_z
  rw [e]
  generalize (k : Int) * jlg 0 = z
  omega
theorem jat_13b : jat 1 3 < 10 ^ 190 := by decide +kernel
theorem jat_b {a b : Nat} (ha : 1 ≤ a) (hab : 3 * a ≤ b) (hb : b < 2147483648) : 0 < jat a b ∧ jat a b < 10 ^ 190 := by
  constructor
  · refine Nat.lt_of_lt_of_le (Nat.div_pos (a := 1000000000 ^ 21 * a) (b := b) ?_ (by omega)) (jyF_s 200 3 _ _)
    exact Nat.le_trans (Nat.le_trans (Nat.le_of_lt hb) (by decide)) (Nat.le_mul_of_pos_right (1000000000 ^ 21) ha)
  · refine Nat.lt_of_le_of_lt ?_ jat_13b
    rw [jy_at, jy_at]
    exact jyB_le (by omega) (by decide) (by omega)
theorem jT_atI {xs : List Int} {d : Nat} {a b : Int} (ha : 1 ≤ a) (hab : 3 * a ≤ b) (hb2 : b < 2147483648) : jT xs (d + 2) 176 0 0 [(0, (0, a)), (1, (0, b))] [] [] 1700 95200 (fun k0 v hsN => k0 = 0 ∧ v = (4, 0) ∧ hsN = [(100, [], jenc ((jat a.toNat b.toNat : Nat) : Int))]) := by
  have h0 : 0 < 1000000000 ^ 21 * a.toNat / b.toNat := Nat.div_pos (Nat.le_trans (Nat.le_trans (show b.toNat ≤ 2147483648 by omega) (by decide)) (Nat.le_mul_of_pos_right (1000000000 ^ 21) (show 0 < a.toNat by omega))) (by omega)
  have ea : ((a.toNat : Nat) : Int) = a := Int.toNat_of_nonneg (by omega)
  have eb : ((b.toNat : Nat) : Int) = b := Int.toNat_of_nonneg (by omega)
  rcases Int.lt_or_eq_of_le ha with h | h
  · have h1 := jT_atanh (xs := xs) (d := d) (a := a.toNat) (b := b.toNat) (by omega) (by omega) (by omega) h0
    rw [ea, eb] at h1
    exact h1
  · have h1 := jT_atanh1 (xs := xs) (d := d) (a := a.toNat) (b := b.toNat) (by omega) (by omega) (by omega) h0
    rw [ea, eb] at h1
    exact h1
theorem jT_product1 {xs : List Int} {d : Nat} {a : Int} (hS : a.natAbs < 1000000000 ^ 54) : jT xs (d + 1) 179 2 0 [(0, (4, 0)), (1, (4, 1))] [] [(100, [], jenc 1), (100, [], jenc a)] 1 56 (fun k v hsN => k = 0 ∧ v = (4, 2) ∧ hsN = [(100, [], jenc 1), (100, [], jenc a), (100, [], jenc a)]) := by
  have h := jT_product (xs := xs) (d := d) (a := 1) (b := a) (by decide) (by rw [Int.one_mul]; exact hS)
  rw [Int.one_mul] at h
  exact h
theorem jy54 {a : Int} (h : a.natAbs < 10 ^ 210) : a.natAbs < 1000000000 ^ 54 := Nat.lt_of_lt_of_le h (by decide)
theorem jyk {k : Int} (h : 1 ≤ k ∧ k ≤ 30) : k * jlg 0 ≠ 0 ∧ (k * jlg 0).natAbs < 10 ^ 199 := by
  have h1 : (List.range 31).all (fun k => Nat.beq k 0 || (decide ((k : Int) * jlg 0 ≠ 0) && decide (((k : Int) * jlg 0).natAbs < 10 ^ 199))) = true := by decide +kernel
  have h2 := List.all_eq_true.mp h1 k.toNat (List.mem_range.mpr (by omega))
  rw [Int.toNat_of_nonneg (show 0 ≤ k by omega)] at h2
  rcases Bool.or_eq_true_iff.mp h2 with h3 | h3
  · have := Nat.eq_of_beq_eq_true h3
    omega
  · have h4 := Bool.and_eq_true_iff.mp h3
    exact ⟨of_decide_eq_true h4.1, of_decide_eq_true h4.2⟩
theorem jyadd {a b : Int} {x y z : Nat} (ha : a.natAbs < x) (hb : b.natAbs < y) (h : x + y ≤ z) : (a + b).natAbs < z := by omega
theorem jya {a b : Nat} (ha : 1 ≤ a) (hab : 3 * a ≤ b) (hb : b < 2147483648) : ((jat a b : Nat) : Int) ≠ 0 ∧ (((jat a b : Nat) : Int) + ((jat a b : Nat) : Int)) ≠ 0 ∧ ((jat a b : Nat) : Int).natAbs < 10 ^ 190 ∧ (((jat a b : Nat) : Int) + ((jat a b : Nat) : Int)).natAbs < 10 ^ 191 := by
  have h := jat_b ha hab hb
  generalize jat a b = x at h ⊢
  have h2 : (10 : Nat) ^ 191 = 10 * 10 ^ 190 := by decide
  rw [h2]
  generalize 10 ^ 190 = z at h ⊢
  omega
def jyL0 : Nat := 693147180559945309417232121458176568075500134360255254120680009493393621969694715605863326996418687542001481020570685733685520235758130557032670751635075961930727570828371435190307038623694
def jyL1 : Nat := 1098612288668109691395245236922525704647490557822749451734694333637494293218608966873615754813732088787970029065957865742368004225930519821052801870767277410603162769183381367179373698844028
def jyL2 : Nat := 1609437912434100374600759333226187639525601354268517721912647891474178987707657764630133878093179610799966303021715562899724005229324676199633616617463705727552179637497183245653492856201846
def jyL3 : Nat := 1945910149055313305105352743443179729637084729581861188459390149937579862752069267787658498587871526993061694205851140911723752257677786843148958095163900775907824468104274783382259349007948
def jyL4 : Nat := 2397895272798370544061943577965129299821706853937417175218567709130573623913236713075054708002634791414715725888137998522255569158595787395355302390801108065051641906680675096589460667937278
def jyL5 : Nat := 2564949357461536736053487441565318604805267944760207116419045510663464667324410179399574663440489488769258192092762721631532154491986587013825268116972297751783697080477562044104565901178606
theorem jyg_0 : jlg 0 = ((jyL0 : Nat) : Int) := by decide +kernel
theorem jyg_1 : jlg 1 = ((jyL1 : Nat) : Int) := by decide +kernel
theorem jyg_2 : jlg 2 = ((jyL2 : Nat) : Int) := by decide +kernel
theorem jyg_3 : jlg 3 = ((jyL3 : Nat) : Int) := by decide +kernel
theorem jyg_4 : jlg 4 = ((jyL4 : Nat) : Int) := by decide +kernel
theorem jyg_5 : jlg 5 = ((jyL5 : Nat) : Int) := by decide +kernel
def jyK : Nat := 10 ^ 164
/-- how a product's logarithm and the roughly reckoned one of its number stand to each other -/
def jyf (s F : Nat) : Bool := Nat.ble F ((jyl (10 ^ 25) s + 50000) * jyK) && Nat.ble (jyl (10 ^ 25) s * jyK) (F + 50000 * jyK)
def jym (f : Nat → Nat → Bool) (p l : Nat) : Nat → Nat → Nat → Bool
  | 0, _, _ => true
  | q + 1, s, F => cond (Nat.ble s 1000000000) (f s F && jym f p l q (s * p) (F + l)) true
theorem jym_s {f : Nat → Nat → Bool} {p l : Nat} (hp : 0 < p) : ∀ (q e s F : Nat), e < q → s * p ^ e ≤ 1000000000 → jym f p l q s F = true → f (s * p ^ e) (F + e * l) = true
  | 0, e, s, F, he, _, _ => absurd he (Nat.not_lt_zero _)
  | q + 1, e, s, F, he, hs, h => by
    have h1 : s ≤ 1000000000 := Nat.le_trans (Nat.le_mul_of_pos_right s (Nat.pow_pos hp)) hs
    have h2 : cond (Nat.ble s 1000000000) (f s F && jym f p l q (s * p) (F + l)) true = true := h
    rw [Nat.ble_eq_true_of_le h1] at h2
    have h3 := Bool.and_eq_true_iff.mp (show (f s F && jym f p l q (s * p) (F + l)) = true from h2)
    cases e with
    | zero =>
      rw [Nat.pow_zero, Nat.mul_one, Nat.zero_mul, Nat.add_zero]
      exact h3.1
    | succ e =>
      have e1 : s * p ^ (e + 1) = s * p * p ^ e := by rw [Nat.pow_succ, Nat.mul_comm (p ^ e) p, Nat.mul_assoc]
      have e2 : F + (e + 1) * l = F + l + e * l := by rw [Nat.succ_mul]; omega
      rw [e1] at hs
      rw [e1, e2]
      exact jym_s hp q e (s * p) (F + l) (by omega) hs h3.2
def jyn5 : Nat → Nat → Bool := jym jyf 13 jyL5 31
def jyn4 : Nat → Nat → Bool := jym jyn5 11 jyL4 31
def jyn3 : Nat → Nat → Bool := jym jyn4 7 jyL3 31
def jyn2 : Nat → Nat → Bool := jym jyn3 5 jyL2 31
theorem jyt_0 : cond (Nat.ble (3 ^ 0) 1000000000) (jyn2 (3 ^ 0) (0 * jyL1)) true = true := by decide +kernel
theorem jyt_1 : cond (Nat.ble (3 ^ 1) 1000000000) (jyn2 (3 ^ 1) (1 * jyL1)) true = true := by decide +kernel
theorem jyt_2 : cond (Nat.ble (3 ^ 2) 1000000000) (jyn2 (3 ^ 2) (2 * jyL1)) true = true := by decide +kernel
theorem jyt_3 : cond (Nat.ble (3 ^ 3) 1000000000) (jyn2 (3 ^ 3) (3 * jyL1)) true = true := by decide +kernel
theorem jyt_4 : cond (Nat.ble (3 ^ 4) 1000000000) (jyn2 (3 ^ 4) (4 * jyL1)) true = true := by decide +kernel
theorem jyt_5 : cond (Nat.ble (3 ^ 5) 1000000000) (jyn2 (3 ^ 5) (5 * jyL1)) true = true := by decide +kernel
theorem jyt_6 : cond (Nat.ble (3 ^ 6) 1000000000) (jyn2 (3 ^ 6) (6 * jyL1)) true = true := by decide +kernel
theorem jyt_7 : cond (Nat.ble (3 ^ 7) 1000000000) (jyn2 (3 ^ 7) (7 * jyL1)) true = true := by decide +kernel
theorem jyt_8 : cond (Nat.ble (3 ^ 8) 1000000000) (jyn2 (3 ^ 8) (8 * jyL1)) true = true := by decide +kernel
theorem jyt_9 : cond (Nat.ble (3 ^ 9) 1000000000) (jyn2 (3 ^ 9) (9 * jyL1)) true = true := by decide +kernel
theorem jyt_10 : cond (Nat.ble (3 ^ 10) 1000000000) (jyn2 (3 ^ 10) (10 * jyL1)) true = true := by decide +kernel
theorem jyt_11 : cond (Nat.ble (3 ^ 11) 1000000000) (jyn2 (3 ^ 11) (11 * jyL1)) true = true := by decide +kernel
theorem jyt_12 : cond (Nat.ble (3 ^ 12) 1000000000) (jyn2 (3 ^ 12) (12 * jyL1)) true = true := by decide +kernel
theorem jyt_13 : cond (Nat.ble (3 ^ 13) 1000000000) (jyn2 (3 ^ 13) (13 * jyL1)) true = true := by decide +kernel
theorem jyt_14 : cond (Nat.ble (3 ^ 14) 1000000000) (jyn2 (3 ^ 14) (14 * jyL1)) true = true := by decide +kernel
theorem jyt_15 : cond (Nat.ble (3 ^ 15) 1000000000) (jyn2 (3 ^ 15) (15 * jyL1)) true = true := by decide +kernel
theorem jyt_16 : cond (Nat.ble (3 ^ 16) 1000000000) (jyn2 (3 ^ 16) (16 * jyL1)) true = true := by decide +kernel
theorem jyt_17 : cond (Nat.ble (3 ^ 17) 1000000000) (jyn2 (3 ^ 17) (17 * jyL1)) true = true := by decide +kernel
theorem jyt_18 : cond (Nat.ble (3 ^ 18) 1000000000) (jyn2 (3 ^ 18) (18 * jyL1)) true = true := by decide +kernel
theorem jyt_19 : cond (Nat.ble (3 ^ 19) 1000000000) (jyn2 (3 ^ 19) (19 * jyL1)) true = true := by decide +kernel
theorem jyt_20 : cond (Nat.ble (3 ^ 20) 1000000000) (jyn2 (3 ^ 20) (20 * jyL1)) true = true := by decide +kernel
theorem jyt_21 : cond (Nat.ble (3 ^ 21) 1000000000) (jyn2 (3 ^ 21) (21 * jyL1)) true = true := by decide +kernel
theorem jyt_22 : cond (Nat.ble (3 ^ 22) 1000000000) (jyn2 (3 ^ 22) (22 * jyL1)) true = true := by decide +kernel
theorem jyt_23 : cond (Nat.ble (3 ^ 23) 1000000000) (jyn2 (3 ^ 23) (23 * jyL1)) true = true := by decide +kernel
theorem jyt_24 : cond (Nat.ble (3 ^ 24) 1000000000) (jyn2 (3 ^ 24) (24 * jyL1)) true = true := by decide +kernel
theorem jyt_25 : cond (Nat.ble (3 ^ 25) 1000000000) (jyn2 (3 ^ 25) (25 * jyL1)) true = true := by decide +kernel
theorem jyt_26 : cond (Nat.ble (3 ^ 26) 1000000000) (jyn2 (3 ^ 26) (26 * jyL1)) true = true := by decide +kernel
theorem jyt_27 : cond (Nat.ble (3 ^ 27) 1000000000) (jyn2 (3 ^ 27) (27 * jyL1)) true = true := by decide +kernel
theorem jyt_28 : cond (Nat.ble (3 ^ 28) 1000000000) (jyn2 (3 ^ 28) (28 * jyL1)) true = true := by decide +kernel
theorem jyt_29 : cond (Nat.ble (3 ^ 29) 1000000000) (jyn2 (3 ^ 29) (29 * jyL1)) true = true := by decide +kernel
theorem jyt_30 : cond (Nat.ble (3 ^ 30) 1000000000) (jyn2 (3 ^ 30) (30 * jyL1)) true = true := by decide +kernel
theorem jyt : ∀ k, k < 31 → cond (Nat.ble (3 ^ k) 1000000000) (jyn2 (3 ^ k) (k * jyL1)) true = true
  | 0, _ => jyt_0
  | 1, _ => jyt_1
  | 2, _ => jyt_2
  | 3, _ => jyt_3
  | 4, _ => jyt_4
  | 5, _ => jyt_5
  | 6, _ => jyt_6
  | 7, _ => jyt_7
  | 8, _ => jyt_8
  | 9, _ => jyt_9
  | 10, _ => jyt_10
  | 11, _ => jyt_11
  | 12, _ => jyt_12
  | 13, _ => jyt_13
  | 14, _ => jyt_14
  | 15, _ => jyt_15
  | 16, _ => jyt_16
  | 17, _ => jyt_17
  | 18, _ => jyt_18
  | 19, _ => jyt_19
  | 20, _ => jyt_20
  | 21, _ => jyt_21
  | 22, _ => jyt_22
  | 23, _ => jyt_23
  | 24, _ => jyt_24
  | 25, _ => jyt_25
  | 26, _ => jyt_26
  | 27, _ => jyt_27
  | 28, _ => jyt_28
  | 29, _ => jyt_29
  | 30, _ => jyt_30
  | n + 31, h => absurd h (by omega)
theorem jyo {e1 e2 e3 e4 e5 : Nat} (h1 : e1 < 31) (h2 : e2 < 31) (h3 : e3 < 31) (h4 : e4 < 31) (h5 : e5 < 31) (hs : 3 ^ e1 * 5 ^ e2 * 7 ^ e3 * 11 ^ e4 * 13 ^ e5 ≤ 1000000000) : jyf (3 ^ e1 * 5 ^ e2 * 7 ^ e3 * 11 ^ e4 * 13 ^ e5) (e1 * jyL1 + e2 * jyL2 + e3 * jyL3 + e4 * jyL4 + e5 * jyL5) = true := by
  have s4 : 3 ^ e1 * 5 ^ e2 * 7 ^ e3 * 11 ^ e4 ≤ 1000000000 := Nat.le_trans (Nat.le_mul_of_pos_right _ (Nat.pow_pos (by decide))) hs
  have s3 : 3 ^ e1 * 5 ^ e2 * 7 ^ e3 ≤ 1000000000 := Nat.le_trans (Nat.le_mul_of_pos_right _ (Nat.pow_pos (by decide))) s4
  have s2 : 3 ^ e1 * 5 ^ e2 ≤ 1000000000 := Nat.le_trans (Nat.le_mul_of_pos_right _ (Nat.pow_pos (by decide))) s3
  have s1 : 3 ^ e1 ≤ 1000000000 := Nat.le_trans (Nat.le_mul_of_pos_right _ (Nat.pow_pos (by decide))) s2
  have t1 := jyt e1 h1
  rw [Nat.ble_eq_true_of_le s1] at t1
  have t2 : jyn2 (3 ^ e1) (e1 * jyL1) = true := t1
  have t3 : jyn3 _ _ = true := jym_s (f := jyn3) (p := 5) (l := jyL2) (by decide) 31 e2 _ _ h2 s2 t2
  have t4 : jyn4 _ _ = true := jym_s (f := jyn4) (p := 7) (l := jyL3) (by decide) 31 e3 _ _ h3 s3 t3
  have t5 : jyn5 _ _ = true := jym_s (f := jyn5) (p := 11) (l := jyL4) (by decide) 31 e4 _ _ h4 s4 t4
  exact jym_s (f := jyf) (p := 13) (l := jyL5) (by decide) 31 e5 _ _ h5 hs t5
theorem jyF_2 {a b : Nat} : ∀ (q k t s : Nat), jatF (2 * a) (2 * b) q k t s = jatF a b q k t s
  | 0, _, _, _ => rfl
  | q + 1, k, t, s => by
    rcases Nat.eq_zero_or_pos t with h | h
    · subst h
      rw [jyF_z, jyF_z]
    · have e : ∀ x : Nat, x * (2 * a) / (2 * b) = x * a / b := fun x => by rw [Nat.mul_left_comm x 2 a, Nat.mul_div_mul_left (x * a) b (show 0 < 2 by decide)]
      rw [jyF_n (by omega), jyF_n (by omega), jyF_2 q, e, e]
theorem jyl_2 {B n : Nat} (h : 1 ≤ n) : jyl B (2 * n) = jyl B n + 2 * jyB B 1 3 := by
  obtain ⟨n1, n2⟩ := (Nat.log2_eq_iff (show n ≠ 0 by omega)).mp rfl
  have hl : (2 * n).log2 = n.log2 + 1 := (Nat.log2_eq_iff (by omega)).mpr ⟨by rw [Nat.pow_succ]; omega, by rw [Nat.pow_succ]; omega⟩
  unfold jyl
  rw [hl, Nat.pow_succ, show 2 * n - 2 ^ n.log2 * 2 = 2 * (n - 2 ^ n.log2) by omega, show 2 * n + 2 ^ n.log2 * 2 = 2 * (n + 2 ^ n.log2) by omega]
  have e : ∀ a b : Nat, jyB B (2 * a) (2 * b) = jyB B a b := fun a b => by
    unfold jyB
    rw [jyF_2, Nat.mul_left_comm B 2 a, Nat.mul_div_mul_left (B * a) b (show 0 < 2 by decide)]
  rw [e, Nat.add_mul, Nat.one_mul]
  generalize jyB B (n - 2 ^ n.log2) (n + 2 ^ n.log2) = y
  generalize jyB B 1 3 = x
  generalize n.log2 * (2 * x) = z
  omega
theorem jyl_20 : jyL0 ≤ (2 * jyB (10 ^ 25) 1 3 + 1000) * jyK ∧ 2 * jyB (10 ^ 25) 1 3 * jyK ≤ jyL0 + 1000 * jyK := by decide +kernel
/-- the same for even numbers: each 2 adds its logarithm -/
theorem jye {s F : Nat} (hs : 1 ≤ s) (h : jyf s F = true) : ∀ e : Nat, e * jyL0 + F ≤ (jyl (10 ^ 25) (2 ^ e * s) + 50000 + 1000 * e) * jyK ∧ jyl (10 ^ 25) (2 ^ e * s) * jyK ≤ e * jyL0 + F + (50000 + 1000 * e) * jyK
  | 0 => by
    have h2 := Bool.and_eq_true_iff.mp (show (Nat.ble F ((jyl (10 ^ 25) s + 50000) * jyK) && Nat.ble (jyl (10 ^ 25) s * jyK) (F + 50000 * jyK)) = true from h)
    have h3 := Nat.le_of_ble_eq_true h2.1
    have h4 := Nat.le_of_ble_eq_true h2.2
    rw [Nat.pow_zero, Nat.one_mul, Nat.zero_mul, Nat.zero_add, Nat.mul_zero, Nat.add_zero, Nat.add_zero]
    exact ⟨h3, h4⟩
  | e + 1 => by
    obtain ⟨h1, h2⟩ := jye hs h e
    obtain ⟨h3, h4⟩ := jyl_20
    have hp : 1 ≤ 2 ^ e * s := Nat.mul_pos (Nat.pow_pos (by decide)) hs
    rw [show 2 ^ (e + 1) * s = 2 * (2 ^ e * s) by rw [Nat.pow_succ, Nat.mul_comm (2 ^ e) 2, Nat.mul_assoc], jyl_2 hp]
    generalize jyl (10 ^ 25) (2 ^ e * s) = x at h1 h2 ⊢
    generalize jyB (10 ^ 25) 1 3 = y at h3 h4 ⊢
    rw [Nat.add_mul e 1 jyL0, Nat.one_mul]
    generalize e * jyL0 = w at h1 h2 ⊢
    generalize jyL0 = v at h3 h4 ⊢
    generalize jyK = K at h1 h2 h3 h4 ⊢
    rw [show x + 2 * y + 50000 + 1000 * (e + 1) = (x + 50000 + 1000 * e) + (2 * y + 1000) by omega, Nat.add_mul (x + 50000 + 1000 * e), Nat.add_mul x (2 * y), show 50000 + 1000 * (e + 1) = (50000 + 1000 * e) + 1000 by omega, Nat.add_mul (50000 + 1000 * e) 1000]
    generalize (x + 50000 + 1000 * e) * K = z1 at h1 ⊢
    generalize (2 * y + 1000) * K = z2 at h3 ⊢
    generalize 2 * y * K = z3 at h4 ⊢
    generalize x * K = z4 at h2 ⊢
    generalize (50000 + 1000 * e) * K = z5 at h2 ⊢
    omega
/-- greater numbers have greater logarithms -/
theorem jyg {s t F G c d : Nat} (hs : F ≤ (jyl (10 ^ 25) s + 50000 + 1000 * c) * jyK) (ht : jyl (10 ^ 25) t * jyK ≤ G + (50000 + 1000 * d) * jyK) (hc : c < 31) (hd : d < 31) (h1 : 1 ≤ s) (hst : s < t) (h9 : t ≤ 1000000000) : F < G := by
  have h2 := jyl_gap (B := 10 ^ 25) (g := 1000000) h1 hst (by omega) (by decide)
  have hK : 0 < jyK := by decide +kernel
  generalize jyl (10 ^ 25) s = x at hs h2
  generalize jyl (10 ^ 25) t = y at ht h2
  have h3 : (x + 2 * 1000000) * jyK ≤ y * jyK := Nat.mul_le_mul_right _ h2
  have h4 : (x + 50000 + 1000 * c) * jyK ≤ (x + 100000) * jyK := Nat.mul_le_mul_right _ (by omega)
  have h5 : (50000 + 1000 * d) * jyK ≤ 100000 * jyK := Nat.mul_le_mul_right _ (by omega)
  rw [Nat.add_mul] at h3
  rw [Nat.add_mul x 100000] at h4
  generalize (x + 50000 + 1000 * c) * jyK = z1 at hs h4
  generalize (50000 + 1000 * d) * jyK = z2 at ht h5
  generalize x * jyK = z3 at h3 h4
  generalize y * jyK = z4 at h3 ht
  generalize jyK = K at h3 h4 h5 hK
  omega
def jys (e0 e1 e2 e3 e4 e5 : Nat) : Nat := 2 ^ e0 * (3 ^ e1 * 5 ^ e2 * 7 ^ e3 * 11 ^ e4 * 13 ^ e5)
def jyS (e0 e1 e2 e3 e4 e5 : Nat) : Nat := e0 * jyL0 + (e1 * jyL1 + e2 * jyL2 + e3 * jyL3 + e4 * jyL4 + e5 * jyL5)
theorem jys_lt {a0 a1 a2 a3 a4 a5 b0 b1 b2 b3 b4 b5 : Nat} (ha : a0 < 31 ∧ a1 < 31 ∧ a2 < 31 ∧ a3 < 31 ∧ a4 < 31 ∧ a5 < 31) (hb : b0 < 31 ∧ b1 < 31 ∧ b2 < 31 ∧ b3 < 31 ∧ b4 < 31 ∧ b5 < 31) (h : jys a0 a1 a2 a3 a4 a5 < jys b0 b1 b2 b3 b4 b5) (h9 : jys b0 b1 b2 b3 b4 b5 ≤ 1000000000) : jyS a0 a1 a2 a3 a4 a5 < jyS b0 b1 b2 b3 b4 b5 := by
  have pa : 0 < 3 ^ a1 * 5 ^ a2 * 7 ^ a3 * 11 ^ a4 * 13 ^ a5 := Nat.mul_pos (Nat.mul_pos (Nat.mul_pos (Nat.mul_pos (Nat.pow_pos (by decide)) (Nat.pow_pos (by decide))) (Nat.pow_pos (by decide))) (Nat.pow_pos (by decide))) (Nat.pow_pos (by decide))
  have pb : 0 < 3 ^ b1 * 5 ^ b2 * 7 ^ b3 * 11 ^ b4 * 13 ^ b5 := Nat.mul_pos (Nat.mul_pos (Nat.mul_pos (Nat.mul_pos (Nat.pow_pos (by decide)) (Nat.pow_pos (by decide))) (Nat.pow_pos (by decide))) (Nat.pow_pos (by decide))) (Nat.pow_pos (by decide))
  have qa : 3 ^ a1 * 5 ^ a2 * 7 ^ a3 * 11 ^ a4 * 13 ^ a5 ≤ 1000000000 := Nat.le_trans (Nat.le_mul_of_pos_left _ (Nat.pow_pos (by decide))) (Nat.le_trans (Nat.le_of_lt h) h9)
  have qb : 3 ^ b1 * 5 ^ b2 * 7 ^ b3 * 11 ^ b4 * 13 ^ b5 ≤ 1000000000 := Nat.le_trans (Nat.le_mul_of_pos_left _ (Nat.pow_pos (by decide))) h9
  have ta := (jye pa (jyo ha.2.1 ha.2.2.1 ha.2.2.2.1 ha.2.2.2.2.1 ha.2.2.2.2.2 qa) a0).1
  have tb := (jye pb (jyo hb.2.1 hb.2.2.1 hb.2.2.2.1 hb.2.2.2.2.1 hb.2.2.2.2.2 qb) b0).2
  exact jyg ta tb ha.1 hb.1 (Nat.mul_pos (Nat.pow_pos (by decide)) pa) h h9
theorem jysu_b {P : Int} (hP : 2 ≤ P) {m : Int} : ∀ {n : Nat} {u : Int}, 1 ≤ u → u ≤ m → 1 ≤ jsu P n u ∧ jsu P n u ≤ m
  | 0, u, h1, h2 => ⟨h1, h2⟩
  | n + 1, u, h1, h2 => by
    by_cases h : u.tmod P = 0
    · rw [jsu_1 h]
      have h3 := jst_d hP h1 h
      exact jysu_b hP (by omega) (by omega)
    · rw [jsu_0 h]
      exact ⟨h1, h2⟩
theorem jysu_m {P : Int} (hP : 2 ≤ P) : ∀ (n : Nat) (u : Int), jsu P n u * P ^ (jsc P n u).toNat = u
  | 0, u => by
    show u * P ^ 0 = u
    rw [Int.pow_zero, Int.mul_one]
  | n + 1, u => by
    by_cases h : u.tmod P = 0
    · have h3 := jsc_b (P := P) (n := n) (u := u.tdiv P)
      have h4 := Int.mul_tdiv_cancel_of_tmod_eq_zero h
      rw [jsu_1 h, jsc_1 h, show (jsc P n (u.tdiv P) + 1).toNat = (jsc P n (u.tdiv P)).toNat + 1 by omega, Int.pow_succ, ← Int.mul_assoc, jysu_m hP n (u.tdiv P), Int.mul_comm]
      exact h4
    · rw [jsu_0 h, jsc_0 h]
      show u * P ^ 0 = u
      rw [Int.pow_zero, Int.mul_one]
def jyu0 (m : Int) : Int := jsu 2 30 m
def jyc0 (m : Int) : Int := jsc 2 30 m
def jyu1 (m : Int) : Int := jsu 3 30 (jyu0 m)
def jyc1 (m : Int) : Int := jsc 3 30 (jyu0 m)
def jyu2 (m : Int) : Int := jsu 5 30 (jyu1 m)
def jyc2 (m : Int) : Int := jsc 5 30 (jyu1 m)
def jyu3 (m : Int) : Int := jsu 7 30 (jyu2 m)
def jyc3 (m : Int) : Int := jsc 7 30 (jyu2 m)
def jyu4 (m : Int) : Int := jsu 11 30 (jyu3 m)
def jyc4 (m : Int) : Int := jsc 11 30 (jyu3 m)
def jyu5 (m : Int) : Int := jsu 13 30 (jyu4 m)
def jyc5 (m : Int) : Int := jsc 13 30 (jyu4 m)
theorem jyu_a {m u0 u1 u2 u3 u4 u5 a0 a1 a2 a3 a4 a5 : Int} (h0 : u0 * a0 = m) (h1 : u1 * a1 = u0) (h2 : u2 * a2 = u1) (h3 : u3 * a3 = u2) (h4 : u4 * a4 = u3) (h5 : u5 * a5 = u4) : m = u5 * (a0 * (a1 * a2 * a3 * a4 * a5)) := by
  subst h0 h1 h2 h3 h4 h5
  simp only [Int.mul_assoc, Int.mul_comm, Int.mul_left_comm]
def jyM (m : Int) : Nat := jys (jyc0 m).toNat (jyc1 m).toNat (jyc2 m).toNat (jyc3 m).toNat (jyc4 m).toNat (jyc5 m).toNat
theorem jyu_m (m : Int) : m = jyu5 m * ((jyM m : Nat) : Int) := by
  unfold jyM jys
  rw [Int.natCast_mul, Int.natCast_mul, Int.natCast_mul, Int.natCast_mul, Int.natCast_mul, Int.natCast_pow, Int.natCast_pow, Int.natCast_pow, Int.natCast_pow, Int.natCast_pow, Int.natCast_pow]
  exact jyu_a (jysu_m (P := 2) (by decide) 30 m) (jysu_m (P := 3) (by decide) 30 (jyu0 m)) (jysu_m (P := 5) (by decide) 30 (jyu1 m)) (jysu_m (P := 7) (by decide) 30 (jyu2 m)) (jysu_m (P := 11) (by decide) 30 (jyu3 m)) (jysu_m (P := 13) (by decide) 30 (jyu4 m))
theorem jyu_b {m : Int} (h1 : 1 ≤ m) (h2 : m ≤ 1000000000) : 1 ≤ jyu5 m ∧ jyu5 m ≤ 1000000000 := by
  have b0 := jysu_b (P := 2) (by decide) (n := 30) h1 h2
  have b1 := jysu_b (P := 3) (by decide) (n := 30) b0.1 b0.2
  have b2 := jysu_b (P := 5) (by decide) (n := 30) b1.1 b1.2
  have b3 := jysu_b (P := 7) (by decide) (n := 30) b2.1 b2.2
  have b4 := jysu_b (P := 11) (by decide) (n := 30) b3.1 b3.2
  exact jysu_b (P := 13) (by decide) (n := 30) b4.1 b4.2
theorem jyc_b (m : Int) : (0 ≤ jyc0 m ∧ jyc0 m ≤ 30) ∧ (0 ≤ jyc1 m ∧ jyc1 m ≤ 30) ∧ (0 ≤ jyc2 m ∧ jyc2 m ≤ 30) ∧ (0 ≤ jyc3 m ∧ jyc3 m ≤ 30) ∧ (0 ≤ jyc4 m ∧ jyc4 m ≤ 30) ∧ (0 ≤ jyc5 m ∧ jyc5 m ≤ 30) :=
  ⟨jsc_b, jsc_b, jsc_b, jsc_b, jsc_b, jsc_b⟩
theorem jyl31 {c : Int} (h : 0 ≤ c ∧ c ≤ 30) : c.toNat < 31 := by omega
theorem jyc_l (m : Int) : (jyc0 m).toNat < 31 ∧ (jyc1 m).toNat < 31 ∧ (jyc2 m).toNat < 31 ∧ (jyc3 m).toNat < 31 ∧ (jyc4 m).toNat < 31 ∧ (jyc5 m).toNat < 31 := by
  obtain ⟨b0, b1, b2, b3, b4, b5⟩ := jyc_b m
  exact ⟨jyl31 b0, jyl31 b1, jyl31 b2, jyl31 b3, jyl31 b4, jyl31 b5⟩
def jyT (m : Int) : Nat := jyS (jyc0 m).toNat (jyc1 m).toNat (jyc2 m).toNat (jyc3 m).toNat (jyc4 m).toNat (jyc5 m).toNat
theorem jyz {c0 c1 c2 c3 c4 c5 d0 d1 d2 d3 d4 d5 : Int} : jlz (c0 - d0) (c1 - d1) (c2 - d2) (c3 - d3) (c4 - d4) (c5 - d5) = (c0 * jlg 0 + (c1 * jlg 1 + c2 * jlg 2 + c3 * jlg 3 + c4 * jlg 4 + c5 * jlg 5)) - (d0 * jlg 0 + (d1 * jlg 1 + d2 * jlg 2 + d3 * jlg 3 + d4 * jlg 4 + d5 * jlg 5)) := by
  unfold jlz
  rw [Int.sub_mul, Int.sub_mul, Int.sub_mul, Int.sub_mul, Int.sub_mul, Int.sub_mul]
  generalize c0 * jlg 0 = x0
  generalize c1 * jlg 1 = x1
  generalize c2 * jlg 2 = x2
  generalize c3 * jlg 3 = x3
  generalize c4 * jlg 4 = x4
  generalize c5 * jlg 5 = x5
  generalize d0 * jlg 0 = y0
  generalize d1 * jlg 1 = y1
  generalize d2 * jlg 2 = y2
  generalize d3 * jlg 3 = y3
  generalize d4 * jlg 4 = y4
  generalize d5 * jlg 5 = y5
  omega
theorem jyT_e (m : Int) : ((jyT m : Nat) : Int) = jyc0 m * jlg 0 + (jyc1 m * jlg 1 + jyc2 m * jlg 2 + jyc3 m * jlg 3 + jyc4 m * jlg 4 + jyc5 m * jlg 5) := by
  obtain ⟨b0, b1, b2, b3, b4, b5⟩ := jyc_b m
  unfold jyT jyS
  rw [Int.natCast_add, Int.natCast_add, Int.natCast_add, Int.natCast_add, Int.natCast_add, Int.natCast_mul, Int.natCast_mul, Int.natCast_mul, Int.natCast_mul, Int.natCast_mul, Int.natCast_mul, Int.toNat_of_nonneg b0.1, Int.toNat_of_nonneg b1.1, Int.toNat_of_nonneg b2.1, Int.toNat_of_nonneg b3.1, Int.toNat_of_nonneg b4.1, Int.toNat_of_nonneg b5.1, ← jyg_0, ← jyg_1, ← jyg_2, ← jyg_3, ← jyg_4, ← jyg_5]
theorem jyM_b {m : Int} (h1 : 1 ≤ m) (h2 : m ≤ 1000000000) : jyM m ≤ 1000000000 := by
  have h3 := jyu_m m
  have h4 := (jyu_b h1 h2).1
  generalize jyM m = s at h3 ⊢
  generalize jyu5 m = u at h3 h4
  have h5 : 1 * (s : Int) ≤ u * (s : Int) := Int.mul_le_mul_of_nonneg_right h4 (Int.natCast_nonneg s)
  omega
theorem jyM_lt {m n : Int} (h1 : 1 ≤ m) (h2 : m < n) (h3 : n ≤ 1000000000) (hu : jyu5 m = jyu5 n) : jyT m < jyT n := by
  have e1 := jyu_m m
  have e2 := jyu_m n
  have hu1 := (jyu_b (show 1 ≤ n by omega) h3).1
  rw [hu] at e1
  have h4 : jyM m < jyM n := by
    rcases Nat.lt_or_ge (jyM m) (jyM n) with h | h
    · exact h
    · exfalso
      have h5 : jyu5 n * ((jyM n : Nat) : Int) ≤ jyu5 n * ((jyM m : Nat) : Int) := Int.mul_le_mul_of_nonneg_left (Int.ofNat_le.mpr h) (Int.le_trans (by decide) hu1)
      generalize jyu5 n * ((jyM n : Nat) : Int) = x at e2 h5
      generalize jyu5 n * ((jyM m : Nat) : Int) = y at e1 h5
      clear hu hu1 h
      omega
  have h5 := jyM_b (show 1 ≤ n by omega) h3
  exact jys_lt (jyc_l m) (jyc_l n) h4 h5
/-- whole numbers with the same rest beside the small primes stand as the products of their powers -/
theorem jyh {m n : Int} (hm : 1 ≤ m ∧ m ≤ 1000000000) (hn : 1 ≤ n ∧ n ≤ 1000000000) (hu : jyu5 m = jyu5 n) : (jlz (jyc0 m - jyc0 n) (jyc1 m - jyc1 n) (jyc2 m - jyc2 n) (jyc3 m - jyc3 n) (jyc4 m - jyc4 n) (jyc5 m - jyc5 n)).sign ≤ 0 ↔ m ≤ n := by
  rcases Int.lt_trichotomy m n with h | h | h
  · have h2 := jyM_lt hm.1 h hn.2 hu
    rw [jyz, ← jyT_e, ← jyT_e]
    have h3 : ((jyT m : Nat) : Int) - ((jyT n : Nat) : Int) < 0 := by
      generalize jyT m = x at h2 ⊢
      generalize jyT n = y at h2 ⊢
      omega
    rw [Int.sign_eq_neg_one_of_neg h3]
    constructor
    · intro _; exact Int.le_of_lt h
    · intro _; decide
  · subst h
    rw [jlz_z (Int.sub_self _) (Int.sub_self _) (Int.sub_self _) (Int.sub_self _) (Int.sub_self _) (Int.sub_self _)]
    constructor
    · intro _; exact Int.le_refl _
    · intro _; decide
  · have h2 := jyM_lt hn.1 h hm.2 hu.symm
    rw [jyz, ← jyT_e, ← jyT_e]
    have h3 : 0 < ((jyT m : Nat) : Int) - ((jyT n : Nat) : Int) := by
      generalize jyT m = x at h2 ⊢
      generalize jyT n = y at h2 ⊢
      omega
    rw [Int.sign_eq_one_of_pos h3]
    constructor
    · intro q; exact absurd q (by decide)
    · intro q; exact absurd q (Int.not_le.mpr h)
theorem jy_neg {a : Int} (h : a.natAbs < 10 ^ 200) : (-a).natAbs < 10 ^ 200 := by rw [Int.natAbs_neg]; exact h
theorem jyl0 : jlg 0 ≠ 0 ∧ (jlg 0).natAbs < 1000000000 ^ 54 := by decide +kernel
theorem jy_s2 : jlg 0 + jlg 0 = 2 * jlg 0 := (Int.two_mul _).symm
theorem jy_sk {k l x : Int} (h : k + 1 = l) : k * x + x = l * x := by
  subst h
  rw [Int.add_mul, Int.one_mul]
theorem jykb {k : Int} (h : 1 ≤ k ∧ k ≤ 30) : (k * jlg 0).natAbs < 1000000000 ^ 54 := jy54 (Nat.lt_of_lt_of_le (jyk h).2 (by decide))
theorem jykc {k : Int} (h : 1 ≤ k ∧ k ≤ 29) : (k * jlg 0 + jlg 0).natAbs < 1000000000 ^ 54 := by
  rw [jy_sk (l := k + 1) rfl]
  exact jykb (by omega)
theorem jyke {k x : Int} (h : 1 ≤ k ∧ k ≤ 30) (hx : x.natAbs < 10 ^ 191) : (k * jlg 0 + x).natAbs < 1000000000 ^ 54 :=
  jyadd (jyk h).2 hx (by decide)
theorem jykd {x : Int} (hx : x.natAbs < 10 ^ 191) : (jlg 0 + x).natAbs < 1000000000 ^ 54 := by
  have h := jyke (k := 1) (by decide) hx
  rw [Int.one_mul] at h
  exact h
theorem jln_k1 {n : Int} (h1 : 2 ≤ n) (h2 : n < 4) : jln n = jlg 0 + (((jat (n - 2).toNat (n + 2).toNat : Nat) : Int) + ((jat (n - 2).toNat (n + 2).toNat : Nat) : Int)) := by
  have h : jln n = 1 * jlg 0 + (((jat (n - 2).toNat (n + 2).toNat : Nat) : Int) + ((jat (n - 2).toNat (n + 2).toNat : Nat) : Int)) := jln_k (k := 1) (p := 2) rfl (by omega) (by omega)
  rw [Int.one_mul] at h
  exact h
theorem jy_half {x : Int} (h : 0 ≤ x) (h2 : x ≤ 1000000000) : 0 ≤ x.tdiv 2 ∧ x.tdiv 2 ≤ 1000000000 ∧ 2 * x.tdiv 2 ≤ x ∧ x ≤ 2 * x.tdiv 2 + 1 := by
  rw [Int.tdiv_eq_ediv_of_nonneg h]
  omega
theorem jywb {a w : Int} (ha : a.natAbs < 10 ^ 200) (hw : w.natAbs < 10 ^ 200) : (a + w).natAbs < 1000000000 ^ 54 := jyadd ha hw (by decide)
theorem jyr {a b : Int} (ha : 0 ≤ a ∧ a ≤ 30) (hb : 0 ≤ b ∧ b ≤ 30) : (-30) ≤ a - b ∧ a - b ≤ 30 := by omega
theorem jyx54 {a : Int} (h : a.natAbs < 10 ^ 200) : a.natAbs < 1000000000 ^ 54 := jy54 (Nat.lt_of_lt_of_le h (by decide))
theorem jyw54 {a : Int} (h : a.natAbs < 10 ^ 200) : (-a).natAbs < 1000000000 ^ 54 := by
  rw [Int.natAbs_neg]
  exact jyx54 h
theorem jyl0p : 0 < jlg 0 := by decide +kernel
theorem jy_n1 {a b : Int} (h : a < b) (h2 : a = 0) : -b < 0 := by omega
theorem jy_n2 {a b : Int} (h : 0 ≤ a) (h2 : a < b) : -b ≠ 0 := by omega
theorem jy_n3 {a b : Int} (h : a < b) : a + -b < 0 := by omega
theorem jy_p1 {a : Int} (h : 0 < a) : a ≠ 0 := by omega
theorem jy_p2 {a : Int} (h : 0 < a) : -a ≠ 0 := by omega
theorem jy_p3 {a b : Int} (h : b < a) : 0 < a + -b := by omega
