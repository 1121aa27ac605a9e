/-! ASSOCIATIVITY, as one computation: eight integers stand for an element with three square roots -/
abbrev k1_ : Type := Int × Int
abbrev k2_ : Type := k1_ × k1_
abbrev k3_ : Type := k2_ × k2_
def kb_ : Nat := 2 ^ 256
def s0_ (i : Nat) (a : Int) : Int := (kr_B kb_ i * kr_B kb_ i * kr_B kb_ i + 7) * a
def ad1_ : k1_ → k1_ → k1_ := kl_ad (fun a b => a + b)
def sb1_ : k1_ → k1_ → k1_ := kl_ad (fun a b => a - b)
def mu1_ : k1_ → k1_ → k1_ := kl_mu (fun a b => a + b) (fun a b => a * b) s0_ 0
def sm1_ : Int → k1_ → k1_ := kl_sm (fun a b => a * b)
def sc1_ : Nat → k1_ → k1_ := kl_sc s0_
def ad2_ : k2_ → k2_ → k2_ := kl_ad ad1_
def sb2_ : k2_ → k2_ → k2_ := kl_ad sb1_
def mu2_ : k2_ → k2_ → k2_ := kl_mu ad1_ mu1_ sc1_ 1
def sm2_ : Int → k2_ → k2_ := kl_sm sm1_
def sc2_ : Nat → k2_ → k2_ := kl_sc sc1_
def ad3_ : k3_ → k3_ → k3_ := kl_ad ad2_
def sb3_ : k3_ → k3_ → k3_ := kl_ad sb2_
def mu3_ : k3_ → k3_ → k3_ := kl_mu ad2_ mu2_ sc2_ 2
def sm3_ : Int → k3_ → k3_ := kl_sm sm2_
def sc3_ : Nat → k3_ → k3_ := kl_sc sc2_
/-- a number is worked out before it is used -/
def fzN {β : Type} (n : Nat) (k : Nat → β) : β := match n with
  | 0 => k 0
  | m + 1 => k (m + 1)
def fz0 {β : Type} (z : Int) (k : Int → β) : β := match z with
  | .ofNat n => fzN n (fun n => k (.ofNat n))
  | .negSucc n => fzN n (fun n => k (.negSucc n))
def fz1 {β : Type} (z : k1_) (k : k1_ → β) : β := fz0 z.1 fun a => fz0 z.2 fun b => k (a, b)
def fz2 {β : Type} (z : k2_) (k : k2_ → β) : β := fz1 z.1 fun a => fz1 z.2 fun b => k (a, b)
def fz3 {β : Type} (z : k3_) (k : k3_ → β) : β := fz2 z.1 fun a => fz2 z.2 fun b => k (a, b)
theorem fzN_eq {β : Type} (n : Nat) (k : Nat → β) : fzN n k = k n := by cases n <;> rfl
theorem fz0_eq {β : Type} (z : Int) (k : Int → β) : fz0 z k = k z := by cases z <;> simp only [fz0, fzN_eq]
theorem fz1_eq {β : Type} (z : k1_) (k : k1_ → β) : fz1 z k = k z := by simp only [fz1, fz0_eq]
theorem fz2_eq {β : Type} (z : k2_) (k : k2_ → β) : fz2 z k = k z := by simp only [fz2, fz1_eq]
theorem fz3_eq {β : Type} (z : k3_) (k : k3_ → β) : fz3 z k = k z := by simp only [fz3, fz2_eq]
def rcf {β : Type} (p q : k3_ × k3_ × k3_) (k : k3_ × k3_ × k3_ → β) : β :=
  fz3 (mu3_ p.1 q.2.1) fun a1 => fz3 (mu3_ p.2.1 q.1) fun a2 => fz3 (mu3_ p.2.1 q.2.1) fun d => fz3 (mu3_ p.2.2 q.2.2) fun e =>
  fz3 (mu3_ p.2.1 q.2.2) fun b1 => fz3 (mu3_ p.2.2 q.2.1) fun b2 => fz3 (mu3_ p.1 q.2.2) fun c1 => fz3 (mu3_ p.2.2 q.1) fun c2 => fz3 (mu3_ p.1 q.1) fun g =>
  fz3 (ad3_ a1 a2) fun s1 => fz3 (ad3_ b1 b2) fun s2 => fz3 (ad3_ c1 c2) fun s3 => fz3 (sb3_ d (sm3_ 21 e)) fun dm => fz3 (ad3_ d (sm3_ 21 e)) fun dp =>
  fz3 (mu3_ s1 dm) fun x1 => fz3 (mu3_ s2 s3) fun x2 => fz3 (mu3_ dp dm) fun y1 => fz3 (mu3_ g s3) fun y2 => fz3 (mu3_ s2 dp) fun z1 => fz3 (mu3_ g s1) fun z2 =>
  fz3 (sb3_ x1 (sm3_ 21 x2)) fun X => fz3 (ad3_ y1 (sm3_ 63 y2)) fun Y => fz3 (ad3_ z1 (sm3_ 3 z2)) fun Z => k (X, Y, Z)
theorem rcf_eq {β : Type} (p q : k3_ × k3_ × k3_) (k : k3_ × k3_ × k3_ → β) : rcf p q k = k (rc3 ad3_ sb3_ mu3_ sm3_ p q) := by
  simp only [rcf, fz3_eq]
  rfl
def z1_ : k1_ := (0, 0)
def z2_ : k2_ := (z1_, z1_)
def z3_ : k3_ := (z2_, z2_)
def o3_ : k3_ := ((((1, 0), z1_)), z2_)
def x3_ (i : Nat) : k3_ := (((kr_B kb_ i, 0), z1_), z2_)
def pa_ : k3_ × k3_ × k3_ := (x3_ 0, (((0, 1), z1_), z2_), o3_)
def pb_ : k3_ × k3_ × k3_ := (x3_ 1, ((z1_, (1, 0)), z2_), o3_)
def pc_ : k3_ × k3_ × k3_ := (x3_ 2, (z2_, ((1, 0), z1_)), o3_)
/-- two triples stand for the same point -/
def cr3 {α : Type} (sb mu : α → α → α) (p q : α × α × α) : α × α × α := (sb (mu p.1 q.2.2) (mu p.2.2 q.1), sb (mu p.2.1 q.2.2) (mu p.2.2 q.2.1), sb (mu p.1 q.2.1) (mu p.2.1 q.1))
def is0_ (z : k3_) : Bool := decide (z = z3_)
def as_chk : Bool := rcf pa_ pb_ fun u => rcf u pc_ fun a => rcf pb_ pc_ fun v => rcf pa_ v fun b =>
  fz3 (mu3_ a.1 b.2.2) fun m1 => fz3 (mu3_ a.2.2 b.1) fun m2 => fz3 (mu3_ a.2.1 b.2.2) fun m3 => fz3 (mu3_ a.2.2 b.2.1) fun m4 => fz3 (mu3_ a.1 b.2.1) fun m5 => fz3 (mu3_ a.2.1 b.1) fun m6 =>
  is0_ (sb3_ m1 m2) && is0_ (sb3_ m3 m4) && is0_ (sb3_ m5 m6)
set_option maxRecDepth 1000000 in
theorem as_chk_true : as_chk = true := by decide +kernel
def as_A : k3_ × k3_ × k3_ := rc3 ad3_ sb3_ mu3_ sm3_ (rc3 ad3_ sb3_ mu3_ sm3_ pa_ pb_) pc_
def as_B : k3_ × k3_ × k3_ := rc3 ad3_ sb3_ mu3_ sm3_ pa_ (rc3 ad3_ sb3_ mu3_ sm3_ pb_ pc_)
theorem as_zero : cr3 sb3_ mu3_ as_A as_B = (z3_, z3_, z3_) := by
  have h := as_chk_true
  unfold as_chk at h
  rw [rcf_eq, rcf_eq, rcf_eq, rcf_eq] at h
  simp only [fz3_eq, Bool.and_eq_true, is0_, decide_eq_true_eq] at h
  obtain ⟨⟨h1, h2⟩, h3⟩ := h
  exact Prod.ext h1 (Prod.ext h2 h3)
