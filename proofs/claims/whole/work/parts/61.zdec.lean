/-- how many bits, of days -/
def pop14 (n : Nat) : Nat := sumN (fun d => if n.testBit d then 1 else 0) 14
def bcA (n : Nat) : Nat := n - ((n / 2) &&& 1431655765)
def bcB (n : Nat) : Nat := (bcA n &&& 858993459) + ((bcA n / 4) &&& 858993459)
def bcC (n : Nat) : Nat := (bcB n + bcB n / 16) &&& 252645135
def bcD (n : Nat) : Nat := bcC n + bcC n / 256
def bcE (n : Nat) : Nat := bcD n + bcD n / 65536
theorem bc_dec : ∀ n, n < 16384 → (n / 2 &&& 1431655765) ≤ n ∧ bcA n < 100000 ∧ bcB n < 100000 ∧ bcC n < 100000 ∧ bcD n < 100000 ∧ (bcE n &&& 63) = pop14 n := by
  have h : (List.range 16384).all (fun n => decide ((n / 2 &&& 1431655765) ≤ n ∧ bcA n < 100000 ∧ bcB n < 100000 ∧ bcC n < 100000 ∧ bcD n < 100000 ∧ (bcE n &&& 63) = pop14 n)) = true := by decide +kernel
  intro n hn
  exact of_decide_eq_true (List.all_eq_true.mp h n (List.mem_range.mpr hn))
theorem pop_14 {n : Nat} (hn : n < 512) : pop14 n = popN n := by
  have h : (List.range 512).all (fun n => decide (pop14 n = popN n)) = true := by decide +kernel
  exact of_decide_eq_true (List.all_eq_true.mp h n (List.mem_range.mpr hn))
def lowN (x : Nat) : Nat := x &&& (512 - x)
theorem low_dec : ∀ x, x < 512 → nI x &&& (-nI x) = nI (lowN x) ∧ (x = 0 ∨ ∃ d, d < 9 ∧ lowN x = 2 ^ d ∧ x.testBit d = true ∧ ∀ j, j < d → x.testBit j = false) := by decide +kernel
