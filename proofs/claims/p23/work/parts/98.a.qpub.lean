/-! what the model answers of quantiles -/
def mQua (X : SS) (x q : Int32) : Int32 := if whyQ X x q 1000 < 0 then whyQ X x q 1000 else qAt (trL X x.toNatClampNeg) (nI q.toNatClampNeg)
def mWor (X : SS) (x w : Int32) : Int32 := if whyQ X x w 1 < 0 then whyQ X x w 1 else if w.toNatClampNeg = 0 then (wrS (trL X x.toNatClampNeg) (srt (X.2.2 x.toNatClampNeg).2.2.1) 11).2 else (wrS (trL X x.toNatClampNeg) (srt (X.2.2 x.toNatClampNeg).2.2.1) 11).1
def rkc : Nat → Int32
  | 0 => (-1)
  | n + 1 => nI n
theorem rkc_dec : ∀ n, nI n + -1 = rkc n
  | 0 => by decide +kernel
  | n + 1 => by
    show nI (n + 1) + -1 = nI n
    rw [← nI_add n 1, Int32.add_assoc, show nI 1 + -1 = (0 : Int32) from by decide +kernel, Int32.add_zero]
def rkM (A : List Hp) (v : Int32) : Nat → Int32
  | 0 => (-1)
  | n + 1 => if qAt A (nI n) ≤ v then nI n else rkM A v n
def mRan (X : SS) (x v : Int32) : Int32 := if whyQ X x v 9999 < 0 then whyQ X x v 9999 else rkM (trL X x.toNatClampNeg) (nI v.toNatClampNeg) 1001
theorem ng0 (x : Int32) : -x = 0 - x := by rw [Int32.sub_eq_add_neg, Int32.zero_add]
