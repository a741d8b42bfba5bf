/-! turned sets, chords: what their loops reckon -/
def jchi (t s : Int) : Int := ((jchs t.toNat s.toNat s.toNat : Nat) : Int)
theorem jchi_tab : ((List.range 31).all fun t => (List.range 31).all fun s => Nat.ble (jchs t s s) 155117520) = true := by decide +kernel
theorem jchi_b (t s : Int) (h0 : 0 ≤ t) (h1 : t ≤ 30) (h2 : 0 ≤ s) (h3 : s ≤ 30) : 0 ≤ jchi t s ∧ jchi t s ≤ 155117520 := by
  have h := List.all_eq_true.mp (List.all_eq_true.mp jchi_tab t.toNat (List.mem_range.mpr (by omega))) s.toNat (List.mem_range.mpr (by omega))
  have h4 := Nat.le_of_ble_eq_true h
  unfold jchi
  omega
theorem jT_chi172 {xs : List Int} {d : Nat} {t s : Int} (h0 : 0 ≤ s) (hs : s ≤ t) (ht : t ≤ 30) : jT xs d 172 0 0 [(0, (0, t)), (1, (0, s))] [] [] 0 0 (fun k v hsN => k = 0 ∧ v = (1, jchi t s) ∧ hsN = []) := by
  have h := jT_ch172 (xs := xs) (d := d) (t := t.toNat) (s := s.toNat) (by omega) (by omega)
  rw [Int.toNat_of_nonneg (show 0 ≤ t by omega), Int.toNat_of_nonneg h0] at h
  exact h
theorem jT_chi315 {xs : List Int} {d : Nat} {t s : Int} (h0 : 0 ≤ s) (hs : s ≤ t) (ht : t ≤ 30) : jT xs d 315 0 0 [(0, (0, t)), (1, (0, s))] [] [] 0 0 (fun k v hsN => k = 0 ∧ v = (1, jchi t s) ∧ hsN = []) := by
  have h := jT_ch315 (xs := xs) (d := d) (t := t.toNat) (s := s.toNat) (by omega) (by omega)
  rw [Int.toNat_of_nonneg (show 0 ≤ t by omega), Int.toNat_of_nonneg h0] at h
  exact h
theorem jun_g {p t q : Int} (h : ((Nat.gcd p.natAbs t.natAbs : Nat) : Int) = q) (h0 : 1 ≤ p) : ∃ g n k : Nat, q = (g : Int) ∧ 1 ≤ g ∧ p = (k : Int) ∧ k = g * n ∧ 1 ≤ n ∧ n ≤ k ∧ g ≤ k ∧ p.tdiv q = (n : Int) := by
  obtain ⟨m, rfl⟩ := Int.eq_ofNat_of_zero_le (show 0 ≤ p by omega)
  obtain ⟨n, hn⟩ := Nat.gcd_dvd_left (Int.natAbs (m : Int)) t.natAbs
  have e : (m : Int).natAbs = m := by omega
  generalize Nat.gcd ((m : Int)).natAbs t.natAbs = g at h hn
  rw [e] at hn
  subst h
  have hg : 1 ≤ g := by
    rcases Nat.eq_zero_or_pos g with z | z
    · subst z; rw [Nat.zero_mul] at hn; omega
    · exact z
  have hn1 : 1 ≤ n := by
    rcases Nat.eq_zero_or_pos n with z | z
    · subst z; rw [Nat.mul_zero] at hn; omega
    · exact z
  have h3 : n ≤ m := by rw [hn]; exact Nat.le_mul_of_pos_left n hg
  have h4 : g ≤ m := by rw [hn]; exact Nat.le_mul_of_pos_right g hn1
  refine ⟨g, n, m, rfl, hg, rfl, hn, hn1, h3, h4, ?_⟩
  rw [← Int.ofNat_tdiv, hn, Nat.mul_div_cancel_left n hg]
theorem jun_b1 {p t q : Int} (h : ((Nat.gcd p.natAbs t.natAbs : Nat) : Int) = q) (h0 : 1 ≤ p) (h1 : p ≤ 30) : 1 ≤ p.tdiv q ∧ p.tdiv q ≤ 30 := by
  obtain ⟨g, n, k, e1, e2, e3, e4, e5, e6, e7, e8⟩ := jun_g h h0
  rw [e8]
  omega
theorem jun_le {p t a q1 q2 q4 : Int} (h1 : ((Nat.gcd p.natAbs t.natAbs : Nat) : Int) = q1) (h2 : p.tdiv q1 = q2) (h4 : a.tdiv q2 = q4) (hp : 1 ≤ p) (ha : 0 ≤ a) (hap : a ≤ p) (hp3 : p ≤ 30) : q4 ≤ q1 := by
  obtain ⟨g, n, k, e1, e2, e3, e4, e5, e6, e7, e8⟩ := jun_g h1 hp
  obtain ⟨b, rfl⟩ := Int.eq_ofNat_of_zero_le ha
  subst h4
  rw [← h2, e8, e1, ← Int.ofNat_tdiv]
  have h5 : b ≤ n * g := by rw [Nat.mul_comm, ← e4]; omega
  exact Int.ofNat_le.mpr (Nat.div_le_of_le_mul h5)
def jut (p a t : Int) : Int := if a.tmod (p.tdiv ((Nat.gcd p.natAbs t.natAbs : Nat) : Int)) = 0 then jchi ((Nat.gcd p.natAbs t.natAbs : Nat) : Int) (a.tdiv (p.tdiv ((Nat.gcd p.natAbs t.natAbs : Nat) : Int))) else 0
theorem jut_b {p a t : Int} (hp : 1 ≤ p ∧ p ≤ 30) (ha : 0 ≤ a ∧ a ≤ 30) : 0 ≤ jut p a t ∧ jut p a t ≤ 155117520 := by
  unfold jut
  obtain ⟨g, n, k, e1, e2, e3, e4, e5, e6, e7, e8⟩ := jun_g (p := p) (t := t) rfl hp.1
  rw [e8, e1]
  split
  · have h := jtd_b0 (x := a) (y := (n : Int)) ha.1 (by omega)
    exact jchi_b _ _ (by omega) (by omega) h.1 (by omega)
  · omega
def jus (p a : Int) : Nat → Int
  | 0 => 0
  | n + 1 => jus p a n + jut p a ((n + 1 : Nat) : Int)
def jur (p a : Int) : Nat → Int
  | 0 => 0
  | n + 1 => jur p a n + jut p a ((n : Nat) : Int)
theorem jus_s {p a t : Int} (h : 1 ≤ t) : jus p a (t + 1 - 1).toNat = jus p a (t - 1).toNat + jut p a t := by
  obtain ⟨n, rfl⟩ : ∃ n : Nat, t = ((n + 1 : Nat) : Int) := ⟨(t - 1).toNat, by omega⟩
  rw [show (((n + 1 : Nat) : Int) + 1 - 1).toNat = n + 1 by omega, show (((n + 1 : Nat) : Int) - 1).toNat = n by omega]
  rfl
theorem jur_s {p a t : Int} (h : 0 ≤ t) : jur p a (t + 1).toNat = jur p a t.toNat + jut p a t := by
  obtain ⟨n, rfl⟩ := Int.eq_ofNat_of_zero_le h
  rw [show ((n : Int) + 1).toNat = n + 1 by omega, show (n : Int).toNat = n by omega]
  rfl
theorem jus_b {p a : Int} {n : Nat} (hp : 1 ≤ p ∧ p ≤ 30) (ha : 0 ≤ a ∧ a ≤ 30) (hn : n ≤ 30) : 0 ≤ jus p a n ∧ jus p a n ≤ 155117520 * (n : Int) := by
  induction n with
  | zero => show (0 : Int) ≤ 0 ∧ (0 : Int) ≤ _; omega
  | succ n ih =>
    have h1 := ih (by omega)
    have h2 := jut_b (t := ((n + 1 : Nat) : Int)) hp ha
    show 0 ≤ jus p a n + jut p a ((n + 1 : Nat) : Int) ∧ jus p a n + jut p a ((n + 1 : Nat) : Int) ≤ _
    omega
theorem jur_b {p a : Int} {n : Nat} (hp : 1 ≤ p ∧ p ≤ 30) (ha : 0 ≤ a ∧ a ≤ 30) (hn : n ≤ 30) : 0 ≤ jur p a n ∧ jur p a n ≤ 155117520 * (n : Int) := by
  induction n with
  | zero => show (0 : Int) ≤ 0 ∧ (0 : Int) ≤ _; omega
  | succ n ih =>
    have h1 := ih (by omega)
    have h2 := jut_b (t := ((n : Nat) : Int)) hp ha
    show 0 ≤ jur p a n + jut p a ((n : Nat) : Int) ∧ jur p a n + jut p a ((n : Nat) : Int) ≤ _
    omega
theorem jus_bp {p a : Int} (hp : 1 ≤ p ∧ p ≤ 30) (ha : 0 ≤ a ∧ a ≤ 30) (hap : a ≤ p) : 0 ≤ jus p a p.toNat ∧ jus p a p.toNat ≤ 4653525600 := by
  have h := jus_b (p := p) (a := a) (n := p.toNat) hp ha (by omega)
  omega
theorem jun_q {p a q : Int} (h : jus p a p.toNat = q) (h1 : 1 ≤ p) (h2 : p ≤ 30) (h3 : 0 ≤ a) (h4 : a ≤ 30) : 0 ≤ q.tdiv p ∧ q.tdiv p ≤ 155117520 := by
  have hb := jus_b (p := p) (a := a) (n := p.toNat) ⟨h1, h2⟩ ⟨h3, h4⟩ (by omega)
  rw [h] at hb
  rw [Int.tdiv_eq_ediv_of_nonneg hb.1]
  exact ⟨Int.ediv_nonneg hb.1 (by omega), Int.ediv_le_of_le_mul (by omega) (by omega)⟩
theorem jur_e {p a : Int} (n : Nat) : jus p a n + jut p a ((0 : Nat) : Int) = jur p a n + jut p a ((n : Nat) : Int) := by
  induction n with
  | zero => rfl
  | succ n ih =>
    show jus p a n + jut p a ((n + 1 : Nat) : Int) + jut p a ((0 : Nat) : Int) = jur p a n + jut p a ((n : Nat) : Int) + jut p a ((n + 1 : Nat) : Int)
    omega
theorem jur_eq {p a : Int} (hp : 1 ≤ p) : jur p a p.toNat = jus p a p.toNat := by
  have h := jur_e (p := p) (a := a) p.toNat
  have e : jut p a ((p.toNat : Nat) : Int) = jut p a ((0 : Nat) : Int) := by
    rw [Int.toNat_of_nonneg (show 0 ≤ p by omega)]
    unfold jut
    rw [Nat.gcd_self, show (((0 : Nat) : Int)).natAbs = 0 from rfl, Nat.gcd_zero_right]
  omega
def jlw (c : Int) : List Int → Int → Int
  | [], l => l
  | i :: r, l => jlw c r (if (Int32.ofInt c >>> (Int32.ofInt i &&& 31)).toInt % 2 = 1 then 0 else l)
theorem jlw_1 {c i l : Int} {r : List Int} (h : (Int32.ofInt c >>> (Int32.ofInt i &&& 31)).toInt % 2 = 1) : jlw c (i :: r) l = jlw c r 0 := by
  show jlw c r (if _ then 0 else l) = _
  rw [if_pos h]
theorem jlw_0 {c i l : Int} {r : List Int} (h : ¬ (Int32.ofInt c >>> (Int32.ofInt i &&& 31)).toInt % 2 = 1) : jlw c (i :: r) l = jlw c r l := by
  show jlw c r (if _ then 0 else l) = _
  rw [if_neg h]
theorem jlw_b {c : Int} : ∀ {r : List Int} {l : Int}, 0 ≤ l → l ≤ 2147483647 → 0 ≤ jlw c r l ∧ jlw c r l ≤ 2147483647
  | [], l, h0, h1 => ⟨h0, h1⟩
  | i :: r, l, h0, h1 => by
    show 0 ≤ jlw c r (if _ then 0 else l) ∧ jlw c r (if _ then 0 else l) ≤ _
    split
    · exact jlw_b (by decide) (by decide)
    · exact jlw_b h0 h1
