/-! ===== acts, whole (written by wip/p28/gen/acts4.py) ===== -/
set_option maxRecDepth 100000 in
set_option maxHeartbeats 600000 in
theorem sL_acts_15 (X : Nat × (Nat → Int32)) (B N : Nat) (hN : 500 ≤ N) (hB : B ≤ 100000) (n k v : Nat) (hk : k < 10000000) (hv : v < 2) (y z : Int32) (hy : y = oN v) (σ : XH) (hJ : JJ B σ) : xAk X (aQ X B N) (n + 200) 15 [(5, xI (oN k)), (0, xR 6 0), (1, xR 9 2), (2, xR 9 3), (3, xR 9 4), (4, xI z)] [xI y] σ := by
  subst hy
  refine wF_of (eL_low X σ z 18 (by decide)) ?_
  refine And.intro (fun _ => sL_acts_96 X B N _ v k hv hk z σ hJ) (fun _ => ?_)
  refine And.intro (fun _ => sL_acts_96 X B N _ v k hv hk z σ hJ) (fun _ => ?_)
  refine And.intro (fun _ => sL_acts_96 X B N _ v k hv hk z σ hJ) (fun _ => ?_)
  refine And.intro (fun _ => sL_acts_233 X B N _ v k hv hk z σ hJ) (fun _ => ?_)
  refine And.intro (fun _ => sL_acts_233 X B N _ v k hv hk z σ hJ) (fun _ => ?_)
  refine And.intro (fun _ => sL_acts_233 X B N _ v k hv hk z σ hJ) (fun _ => ?_)
  refine And.intro (fun _ => sL_acts_374 X B N _ v k hk z σ hJ) (fun _ => ?_)
  refine And.intro (fun _ => sL_acts_374 X B N _ v k hk z σ hJ) (fun _ => ?_)
  refine And.intro (fun _ => sL_acts_374 X B N _ v k hk z σ hJ) (fun _ => ?_)
  refine And.intro (fun _ => sL_acts_409 X B N _ v k hk z σ hJ) (fun _ => ?_)
  refine And.intro (fun _ => sL_acts_409 X B N _ v k hk z σ hJ) (fun _ => ?_)
  refine And.intro (fun _ => sL_acts_409 X B N _ v k hk z σ hJ) (fun _ => ?_)
  refine And.intro (fun _ => sL_acts_514 X B N _ v k hv hk z σ hJ) (fun _ => ?_)
  refine And.intro (fun _ => sL_acts_601 X B N _ v k hv hk z σ hJ) (fun _ => ?_)
  exact sL_acts_676 X B N hN hB _ v k hk z σ hJ
set_option maxRecDepth 100000 in
set_option maxHeartbeats 600000 in
theorem wL_acts (X : Nat × (Nat → Int32)) (σ : XH) (B : Nat) (hB : B ≤ 100000) (hJ : JJ B σ) (z : Int32) : wF (fL_acts X [xR 6 0, xR 9 2, xR 9 3, xR 9 4, xI z] σ) (aR B) := by
  obtain ⟨k, hk, ek⟩ := low_rng (z >>> (Int32.ofInt 5 &&& 31)) (n := 10000000) (by decide) (by decide)
  have e1 := eL_low X σ (z >>> (Int32.ofInt 5 &&& 31)) (oN 10000000) (by decide)
  rw [ek] at e1
  rw [uL_acts]
  refine wI_s (N := 99999) ?_
  refine wF_of e1 ?_
  refine And.intro (by decide) ?_
  exact sL_acts_15 X B 99999 (by decide) hB _ k (k % 2) hk (Nat.mod_lt _ (by decide)) _ z (q_mod (n := 2) rfl (by omega) (by decide) (by decide)) σ hJ
