/-! of the reference: what its numbers are (pure) -/
def hv (p x : Int) (P : Int → Int) (N : Int) : Nat → Int
  | 0 => 0
  | j + 1 => (hv p x P N j * x + P (N - 1 - (j : Int))) % p
theorem hv_rg {p x : Int} {P : Int → Int} {N : Int} (hp : 0 < p) (j : Nat) : 0 ≤ hv p x P N j ∧ hv p x P N j < p := by
  cases j with
  | zero => unfold hv; omega
  | succ j => unfold hv; exact ⟨Int.emod_nonneg _ (by omega), Int.emod_lt_of_pos _ hp⟩
theorem hv_hz {p x : Int} {P : Int → Int} (j : Nat) : hv p x P 7 j = hz p x P j := by
  induction j with
  | zero => rfl
  | succ j ih =>
    show (hv p x P 7 j * x + P (7 - 1 - (j : Int))) % p = (hz p x P j * x + P (6 - (j : Int))) % p
    rw [ih]
    rfl
def trT (wh : Nat) (A M9 N9 : Int → Int) (h : Int) : Int := (A h - hv (pr wh) h M9 7 7) % pr wh * iv wh (hv (pr wh) h N9 8 8) % pr wh
def trK (wh : Nat) (set : Int) (A : Int → Int) : Nat → (Int → Int) × (Int → Int)
  | 0 => (fun _ => 0, fun k => if k = 0 then 1 else 0)
  | k + 1 => if hs set ((k : Int) + 1) then (fun c => ((trK wh set A k).1 c + trT wh A (trK wh set A k).1 (trK wh set A k).2 ((k : Int) + 1) * (trK wh set A k).2 c) % pr wh, tmS (pr wh) ((k : Int) + 1) (trK wh set A k).2) else trK wh set A k
def atV (wh : Nat) (set : Int) (A : Int → Int) (x : Int) : Int := hv (pr wh) (x % pr wh) (trK wh set A (ho wh).toNat).1 7 7
abbrev RD : Type := Int × Int × (Int → Int) × (Int → Int)
abbrev RD.dg (r : RD) : Int := r.1
abbrev RD.hp (r : RD) : Int := r.2.1
abbrev RD.A (r : RD) : Int → Int := r.2.2.1
abbrev RD.E (r : RD) : Int → Int := r.2.2.2
def updR (R : Nat → RD) (i : Nat) (r : RD) : Nat → RD := fun j => if j = i then r else R j
theorem stK_top {A : Int → Int} {M : Nat} (h : ∀ j : Int, M < j → j < 8 → A j = -1) : ∀ k, M ≤ k → k ≤ 7 → stK A k = stK A M := by
  intro k
  induction k with
  | zero => intro h1 _; rw [show M = 0 by omega]
  | succ k ih =>
    intro h1 h2
    by_cases e : M = k + 1
    · rw [e]
    · have e1 : stK A (k + 1) = stK A k + (if A ((k : Int) + 1) ≠ -1 then 2 ^ k else 0) := rfl
      rw [e1, ih (by omega) (by omega), if_neg (fun q => q (h _ (by omega) (by omega))), Int.add_zero]
def thB (set st : Int) : Nat → Bool
  | 0 => true
  | k + 1 => thB set st k && (!decide (hs set ((k : Int) + 1)) || decide (hs st ((k : Int) + 1)))
abbrev agD (wh : Nat) (r : RD) (set : Int) : Prop := hiK (trK wh set r.A (ho wh).toNat).1 7 ≤ r.dg
def foK (dg st : Int) : Nat → Int
  | 0 => 0
  | k + 1 => if hs st ((k : Int) + 1) ∧ bc (foK dg st k) ≤ dg then foK dg st k + 2 ^ k else foK dg st k
def foV (wh : Nat) (r : RD) : Int := if r.dg < bc (foK r.dg (st7 r.A) (ho wh).toNat) then foK r.dg (st7 r.A) (ho wh).toNat else 0
def suK (wh : Nat) (r : RD) : Nat → Int
  | 0 => 0
  | k + 1 => if hs (st7 r.A) ((k : Int) + 1) ∧ agD wh r (st7 r.A - 2 ^ k) then suK wh r k + 2 ^ k else suK wh r k
def wrV (wh : Nat) (r : RD) : Int := if r.dg = -1 then -9 else if agD wh r (st7 r.A) then 0 else if bc (st7 r.A) < r.dg + 3 then -9 else ffd (suK wh r (ho wh).toNat) (ho wh) (ho wh).toNat
def stV (wh : Nat) (r : RD) (k : Int) : Int := if r.hp = 1 ∧ k ≤ r.dg then sl wh (r.E k) else -1
abbrev fiV (wh : Nat) (r : RD) (h : Int) : Prop := r.A h = hv (pr wh) h r.E ((r.dg.toNat + 1 : Nat) : Int) (r.dg.toNat + 1)
def puR (r : RD) (h v : Int) : RD := (r.dg, r.hp, e_fu r.A h v, r.E)
def emR (r : RD) : RD := (-1, 0, fun _ => -1, r.E)
def fdR (R : Nat → RD) : Nat → Int
  | 0 => 0
  | k + 1 => fdR R k + (if (R k).dg = -1 then 0 else 1)
def hoR (wh : Nat) (kn : Int) (R : Nat → RD) (c : Int) : Int := if c = 5 then fdR R 6 else if c = 0 then (wh : Int) else if c = 1 then pr wh else if c = 2 then gr wh else if c = 3 then bs wh else if c = 4 then ho wh else kn
def feB (wh : Nat) (r : RD) (set : Int) : Nat → Bool
  | 0 => true
  | k + 1 => feB wh r set k && (!decide (hs set ((k : Int) + 1)) || decide (fiV wh r ((k : Int) + 1)))
abbrev fsV (wh : Nat) (r : RD) : Prop := foV wh r = 0 ∨ ¬ (feB wh r (foV wh r) (ho wh).toNat = true) ∨ sl wh (atV wh (foV wh r) r.A 0) = stV wh r 0
def fwK (wh : Nat) (R : Nat → RD) : Nat → Bool
  | 0 => true
  | k + 1 => if (R (5 - k)).hp = 1 then decide (fsV wh (R (5 - k))) else fwK wh R k
abbrev whV (wh : Nat) (R : Nat → RD) : Prop := atV wh (fl wh) (fun _ => 1) 0 = 1 ∧ fwK wh R 6 = true
def mdV (wh : Nat) (r : RD) (c : Int) : Int := if c = 0 then r.dg else if c = 1 then bc (st7 r.A) else if c = 2 then st7 r.A else if c = 3 then r.hp else if c = 4 then b01 (r.dg ≠ -1 ∧ agD wh r (st7 r.A)) else (if r.dg = -1 ∨ foV wh r = 0 then -1 else atV wh (foV wh r) r.A 0)
def mg1 (wh : Nat) (r : RD) (b : Int) (k : Nat) : Int := itF (fun c => mdV wh r c) b k
def mg2 (wh : Nat) (r : RD) (b : Int) (k : Nat) : Int := itF (fun h => r.A ((h : Int) + 1)) (mg1 wh r b 4) k
def mg3 (wh : Nat) (r : RD) (b : Int) (k : Nat) : Int := itF (fun c => stV wh r c) (mg2 wh r b (ho wh).toNat) k
def mgI (wh : Nat) (kn : Int) (R : Nat → RD) : Nat → Int
  | 0 => itF (fun c => hoR wh kn R c) 7977 7
  | i + 1 => mg3 wh (R i) (mgI wh kn R i) 4
def mgV (wh : Nat) (kn : Int) (R : Nat → RD) : Int := mgI wh kn R 6 * 31 + b01 (whV wh R)
def pwR (wh : Nat) (a e : Int) : Int := if a % pr wh = 0 then (if e < 0 then -9 else b01 (e = 0)) else e_pw (a % pr wh) (e % (pr wh - 1)).toNat (pr wh)
def rcp (wh : Nat) (a : Int) : Int := if a % pr wh = 0 then -9 else iv wh (a % pr wh)
abbrev thQ (wh : Nat) (r : RD) (set : Int) : Prop := thB set (st7 r.A) (ho wh).toNat = true ∧ r.dg ≠ -1
def orV (a b : Int) : Int := if a = -1 ∨ b = -1 then -9 else b01 (b < a) - b01 (a < b)
def moK (b : Int) (A : Int → Int) (M : Nat) : Nat → Int
  | 0 => 0
  | j + 1 => if A ((M : Int) - (j : Int)) ≠ -1 ∧ (moK b A M j = 0 ∨ (if b = 0 then A (moK b A M j) ≤ A ((M : Int) - (j : Int)) else A ((M : Int) - (j : Int)) ≤ A (moK b A M j))) then (M : Int) - (j : Int) else moK b A M j
def saB (r1 r2 : RD) : Nat → Bool
  | 0 => decide (r1.dg = r2.dg)
  | k + 1 => saB r1 r2 k && decide (r1.A ((k : Int) + 1) = r2.A ((k : Int) + 1))
theorem sl_mod {wh : Nat} (a : Int) : sl wh (a % pr wh) = sl wh a := by unfold sl; rw [Int.emod_emod_of_dvd _ (Int.dvd_refl _)]
def lpR (wh : Nat) (g : Int) (P : Int → Int) : RD := (g, 1, fun h => if 1 ≤ h ∧ h ≤ ho wh then hv (pr wh) h P ((g.toNat + 1 : Nat) : Int) (g.toNat + 1) else -1, P)
theorem hs_zero (h : Int) : ¬ hs 0 h := by
  show ¬ (0 / 2 ^ (h - 1).toNat % 2 = 1)
  rw [Int.zero_ediv]
  decide
def poR (wh : Nat) (r : RD) (P : Int → Int) : RD := (r.dg, r.hp, fun h => if r.A h = -1 then -1 else (r.A h + hv (pr wh) h P ((r.dg.toNat + 1 : Nat) : Int) (r.dg.toNat + 1)) % pr wh, fun k => (P k + r.E k) % pr wh)
def scR (wh : Nat) (r : RD) (f : Int) : RD := (r.dg, r.hp, fun h => if r.A h = -1 then -1 else r.A h * f % pr wh, fun k => r.E k * f % pr wh)
def tiR (wh : Nat) (r1 r2 : RD) : RD := (r1.dg + r2.dg, 0, fun h => if r1.A h = -1 ∨ r2.A h = -1 then -1 else r1.A h * r2.A h % pr wh, fun _ => 0)
def ofE (r : RD) (k : Int) : Int := if k ≤ r.dg then r.E k else 0
def joR (wh : Nat) (s : Int) (r1 r2 : RD) : RD := (if r1.dg < r2.dg then r2.dg else r1.dg, if r1.hp = 1 ∧ r2.hp = 1 then 1 else 0, fun h => if r1.A h = -1 ∨ r2.A h = -1 then -1 else (r1.A h + s * r2.A h) % pr wh, fun k => (ofE r1 k + s * ofE r2 k) % pr wh)
def hnP (wh : Nat) (set : Int) (A : Int → Int) (a b : Int) : Int → Int := fun k => if k = 0 then atV wh set A 0 else atV wh set (fun h => (a * h + b * k) % pr wh) 0
def lfD (p m : Int) : Nat → Int
  | 0 => m
  | k + 1 => lfD p m k / p
def itD (p num m : Int) : Int → Int := fun j => if j = 0 then num % p else lfD p m (j - 1).toNat % p
def okW (wh : Nat) (r : RD) (E : Int → Int) (set : Int) : Nat → Bool
  | 0 => true
  | k + 1 => okW wh r E set k && (!decide (hs set ((k : Int) + 1)) || decide (hv (pr wh) ((k : Int) + 1) E ((r.dg.toNat + 1 : Nat) : Int) (r.dg.toNat + 1) = r.A ((k : Int) + 1)))
def wcK (wh : Nat) (r : RD) (num set : Int) : Nat → Int
  | 0 => 0
  | m + 1 => wcK wh r num set m + b01 (okW wh r (itD (pr wh) num (m : Int)) set (ho wh).toNat = true)
def waV (wh : Nat) (r : RD) (num set : Int) : Int := if 125 < pbK (pr wh) r.dg.toNat then -9 else wcK wh r num set (pbK (pr wh) r.dg.toNat).toNat
