/-! SOUNDNESS, all clauses: what the least relation says of a method's entry holds of its bytecode -/
def SX (Γ : en) (l : Launch) (St : State → Prop) (NC : Nat) : xt := fun b M pc L S h Q => Cond.code M.1 M.2.1 M.2.2.1 M.2.2.2.1 ∈ gT → Snd Γ l St NC b M pc L S h Q
section ALL
variable {Γ : en} {l : Launch} {St : State → Prop} {NC : Nat}
theorem xx_iconst (hE : envOK Γ St) {adV : Nat → Nat} (hX : envX Γ St adV) (hl : l.stackTraces = false) : k_iconst (SX Γ l St NC) := by
  intro _ _ _ _ _ _ _ _ _ g0 g1 k hM
  exact sn_iconst hE g0 g1 (k hM)
theorem xx_bipush (hE : envOK Γ St) {adV : Nat → Nat} (hX : envX Γ St adV) (hl : l.stackTraces = false) : k_bipush (SX Γ l St NC) := by
  intro _ _ _ _ _ _ _ _ _ g0 g1 k hM
  exact sn_bipush hE g0 g1 (k hM)
theorem xx_sipush (hE : envOK Γ St) {adV : Nat → Nat} (hX : envX Γ St adV) (hl : l.stackTraces = false) : k_sipush (SX Γ l St NC) := by
  intro _ _ _ _ _ _ _ _ _ g0 g1 k hM
  exact sn_sipush hE g0 g1 (k hM)
theorem xx_ldcI (hE : envOK Γ St) {adV : Nat → Nat} (hX : envX Γ St adV) (hl : l.stackTraces = false) : k_ldcI (SX Γ l St NC) := by
  intro _ _ _ _ _ _ _ _ _ g0 g1 k hM
  exact sn_ldcI hE g0 g1 (k hM)
theorem xx_iload_n (hE : envOK Γ St) {adV : Nat → Nat} (hX : envX Γ St adV) (hl : l.stackTraces = false) : k_iload_n (SX Γ l St NC) := by
  intro _ _ _ _ _ _ _ _ _ _ g0 g1 g2 k hM
  exact sn_iload_n hE g0 g1 g2 (k hM)
theorem xx_iload (hE : envOK Γ St) {adV : Nat → Nat} (hX : envX Γ St adV) (hl : l.stackTraces = false) : k_iload (SX Γ l St NC) := by
  intro _ _ _ _ _ _ _ _ _ g0 g1 k hM
  exact sn_iload hE g0 g1 (k hM)
theorem xx_aload_n (hE : envOK Γ St) {adV : Nat → Nat} (hX : envX Γ St adV) (hl : l.stackTraces = false) : k_aload_n (SX Γ l St NC) := by
  intro _ _ _ _ _ _ _ _ _ _ g0 g1 g2 k hM
  exact sn_aload_n hE g0 g1 g2 (k hM)
theorem xx_aload (hE : envOK Γ St) {adV : Nat → Nat} (hX : envX Γ St adV) (hl : l.stackTraces = false) : k_aload (SX Γ l St NC) := by
  intro _ _ _ _ _ _ _ _ _ g0 g1 k hM
  exact sn_aload hE g0 g1 (k hM)
theorem xx_iadd (hE : envOK Γ St) {adV : Nat → Nat} (hX : envX Γ St adV) (hl : l.stackTraces = false) : k_iadd (SX Γ l St NC) := by
  intro _ _ _ _ _ _ _ _ _ g0 k hM
  exact sn_iadd hE g0 (k hM)
theorem xx_isub (hE : envOK Γ St) {adV : Nat → Nat} (hX : envX Γ St adV) (hl : l.stackTraces = false) : k_isub (SX Γ l St NC) := by
  intro _ _ _ _ _ _ _ _ _ g0 k hM
  exact sn_isub hE g0 (k hM)
theorem xx_imul (hE : envOK Γ St) {adV : Nat → Nat} (hX : envX Γ St adV) (hl : l.stackTraces = false) : k_imul (SX Γ l St NC) := by
  intro _ _ _ _ _ _ _ _ _ g0 k hM
  exact sn_imul hE g0 (k hM)
theorem xx_iand (hE : envOK Γ St) {adV : Nat → Nat} (hX : envX Γ St adV) (hl : l.stackTraces = false) : k_iand (SX Γ l St NC) := by
  intro _ _ _ _ _ _ _ _ _ g0 k hM
  exact sn_iand hE g0 (k hM)
theorem xx_ior (hE : envOK Γ St) {adV : Nat → Nat} (hX : envX Γ St adV) (hl : l.stackTraces = false) : k_ior (SX Γ l St NC) := by
  intro _ _ _ _ _ _ _ _ _ g0 k hM
  exact sn_ior hE g0 (k hM)
theorem xx_ishl (hE : envOK Γ St) {adV : Nat → Nat} (hX : envX Γ St adV) (hl : l.stackTraces = false) : k_ishl (SX Γ l St NC) := by
  intro _ _ _ _ _ _ _ _ _ g0 k hM
  exact sn_ishl hE g0 (k hM)
theorem xx_ishr (hE : envOK Γ St) {adV : Nat → Nat} (hX : envX Γ St adV) (hl : l.stackTraces = false) : k_ishr (SX Γ l St NC) := by
  intro _ _ _ _ _ _ _ _ _ g0 k hM
  exact sn_ishr hE g0 (k hM)
theorem xx_idiv (hE : envOK Γ St) {adV : Nat → Nat} (hX : envX Γ St adV) (hl : l.stackTraces = false) : k_idiv (SX Γ l St NC) := by
  intro _ _ _ _ _ _ _ _ _ g0 g1 k hM
  exact sn_idiv hE g0 g1 (k hM)
theorem xx_irem (hE : envOK Γ St) {adV : Nat → Nat} (hX : envX Γ St adV) (hl : l.stackTraces = false) : k_irem (SX Γ l St NC) := by
  intro _ _ _ _ _ _ _ _ _ g0 g1 k hM
  exact sn_irem hE g0 g1 (k hM)
theorem xx_ineg (hE : envOK Γ St) {adV : Nat → Nat} (hX : envX Γ St adV) (hl : l.stackTraces = false) : k_ineg (SX Γ l St NC) := by
  intro _ _ _ _ _ _ _ _ g0 k hM
  exact sn_ineg hE g0 (k hM)
theorem xx_iushr (hE : envOK Γ St) {adV : Nat → Nat} (hX : envX Γ St adV) (hl : l.stackTraces = false) : k_iushr (SX Γ l St NC) := by
  intro _ _ _ _ _ _ _ _ _ _ g0 g1 k hM
  exact sn_iushr hE g0 g1 (k hM)
theorem xx_i2b (hE : envOK Γ St) {adV : Nat → Nat} (hX : envX Γ St adV) (hl : l.stackTraces = false) : k_i2b (SX Γ l St NC) := by
  intro _ _ _ _ _ _ _ _ _ g0 g1 k hM
  exact sn_i2b hE g0 g1 (k hM)
theorem xx_dup (hE : envOK Γ St) {adV : Nat → Nat} (hX : envX Γ St adV) (hl : l.stackTraces = false) : k_dup (SX Γ l St NC) := by
  intro _ _ _ _ _ _ _ _ g0 g1 k hM
  exact sn_dup hE g0 g1 (k hM)
theorem xx_dup2 (hE : envOK Γ St) {adV : Nat → Nat} (hX : envX Γ St adV) (hl : l.stackTraces = false) : k_dup2 (SX Γ l St NC) := by
  intro _ _ _ _ _ _ _ _ _ g0 g1 g2 k hM
  exact sn_dup2 hE g0 g1 g2 (k hM)
theorem xx_pop (hE : envOK Γ St) {adV : Nat → Nat} (hX : envX Γ St adV) (hl : l.stackTraces = false) : k_pop (SX Γ l St NC) := by
  intro _ _ _ _ _ _ _ _ g0 g1 k hM
  exact sn_pop hE g0 g1 (k hM)
theorem xx_fconst0 (hE : envOK Γ St) {adV : Nat → Nat} (hX : envX Γ St adV) (hl : l.stackTraces = false) : k_fconst0 (SX Γ l St NC) := by
  intro _ _ _ _ _ _ _ g0 k hM
  exact sn_fconst0 hE g0 (k hM)
theorem xx_i2f (hE : envOK Γ St) {adV : Nat → Nat} (hX : envX Γ St adV) (hl : l.stackTraces = false) : k_i2f (SX Γ l St NC) := by
  intro _ _ _ _ _ _ _ _ g0 k hM
  exact sn_i2f hE g0 (k hM)
theorem xx_fdiv (hE : envOK Γ St) {adV : Nat → Nat} (hX : envX Γ St adV) (hl : l.stackTraces = false) : k_fdiv (SX Γ l St NC) := by
  intro _ _ _ _ _ _ _ _ _ g0 g1 k hM
  exact sn_fdiv hE g0 g1 (k hM)
theorem xx_getf (hE : envOK Γ St) {adV : Nat → Nat} (hX : envX Γ St adV) (hl : l.stackTraces = false) : k_getf NC (SX Γ l St NC) := by
  intro _ _ _ _ _ _ _ _ _ _ _ _ _ _ _ _ _ g0 g1 g2 g3 g4 g5 g6 k hM
  exact sn_getf hE g0 g1 g2 g3 g4 g5 g6 (k hM)
theorem xx_iald (hE : envOK Γ St) {adV : Nat → Nat} (hX : envX Γ St adV) (hl : l.stackTraces = false) : k_iald NC (SX Γ l St NC) := by
  intro _ _ _ _ _ _ _ _ _ _ _ g0 g1 g2 g3 k hM
  exact sn_iald hE g0 g1 g2 g3 (k hM)
theorem xx_bald (hE : envOK Γ St) {adV : Nat → Nat} (hX : envX Γ St adV) (hl : l.stackTraces = false) : k_bald NC (SX Γ l St NC) := by
  intro _ _ _ _ _ _ _ _ _ _ _ g0 g1 g2 g3 k hM
  exact sn_bald hE g0 g1 g2 g3 (k hM)
theorem xx_zald (hE : envOK Γ St) {adV : Nat → Nat} (hX : envX Γ St adV) (hl : l.stackTraces = false) : k_zald NC (SX Γ l St NC) := by
  intro _ _ _ _ _ _ _ _ _ _ _ g0 g1 g2 g3 k hM
  exact sn_zald hE g0 g1 g2 g3 (k hM)
theorem xx_aald (hE : envOK Γ St) {adV : Nat → Nat} (hX : envX Γ St adV) (hl : l.stackTraces = false) : k_aald NC (SX Γ l St NC) := by
  intro _ _ _ _ _ _ _ _ _ _ _ _ g0 g1 g2 g3 g4 k hM
  exact sn_aald hE g0 g1 g2 g3 g4 (k hM)
theorem xx_aalg (hE : envOK Γ St) {adV : Nat → Nat} (hX : envX Γ St adV) (hl : l.stackTraces = false) : k_aalg NC (SX Γ l St NC) := by
  intro _ _ _ _ _ _ _ _ _ _ _ _ g0 g1 g2 g3 g4 k hM
  exact sn_aalg hE g0 g1 g2 g3 g4 (k hM)
theorem xx_alen (hE : envOK Γ St) {adV : Nat → Nat} (hX : envX Γ St adV) (hl : l.stackTraces = false) : k_alen NC (SX Γ l St NC) := by
  intro _ _ _ _ _ _ _ _ _ _ _ _ g0 g1 g2 g3 g4 k hM
  exact sn_alen hE g0 g1 g2 g3 g4 (k hM)
theorem xx_tld (hE : envOK Γ St) {adV : Nat → Nat} (hX : envX Γ St adV) (hl : l.stackTraces = false) : k_tld (SX Γ l St NC) := by
  intro _ _ _ _ _ _ _ _ _ _ g0 g1 g2 g3 k hM
  exact sn_tld hE g0 g1 g2 g3 (k hM)
theorem xx_tlen (hE : envOK Γ St) {adV : Nat → Nat} (hX : envX Γ St adV) (hl : l.stackTraces = false) : k_tlen (SX Γ l St NC) := by
  intro _ _ _ _ _ _ _ _ _ g0 g1 g2 k hM
  exact sn_tlen hE g0 g1 g2 (k hM)
theorem xx_gets (hE : envOK Γ St) {adV : Nat → Nat} (hX : envX Γ St adV) (hl : l.stackTraces = false) : k_gets (SX Γ l St NC) := by
  intro _ _ _ _ _ _ _ _ _ g0 g1 k hM
  exact sn_gets hE g0 g1 (k hM)
theorem xx_ldcS (hE : envOK Γ St) {adV : Nat → Nat} (hX : envX Γ St adV) (hl : l.stackTraces = false) : k_ldcS (SX Γ l St NC) := by
  intro _ _ _ _ _ _ _ _ _ _ g0 g1 k hM
  exact sn_ldcS hE g0 g1 (k hM)
theorem xx_if_eq (hE : envOK Γ St) {adV : Nat → Nat} (hX : envX Γ St adV) (hl : l.stackTraces = false) : k_if_eq (SX Γ l St NC) := by
  intro _ _ _ _ _ _ _ _ _ _ g0 g1 k1 k2 hM
  exact sn_if_eq hE g0 g1 (fun q => k1 q hM) (fun q => k2 q hM)
theorem xx_if_ne (hE : envOK Γ St) {adV : Nat → Nat} (hX : envX Γ St adV) (hl : l.stackTraces = false) : k_if_ne (SX Γ l St NC) := by
  intro _ _ _ _ _ _ _ _ _ _ g0 g1 k1 k2 hM
  exact sn_if_ne hE g0 g1 (fun q => k1 q hM) (fun q => k2 q hM)
theorem xx_if_lt (hE : envOK Γ St) {adV : Nat → Nat} (hX : envX Γ St adV) (hl : l.stackTraces = false) : k_if_lt (SX Γ l St NC) := by
  intro _ _ _ _ _ _ _ _ _ _ g0 g1 k1 k2 hM
  exact sn_if_lt hE g0 g1 (fun q => k1 q hM) (fun q => k2 q hM)
theorem xx_if_ge (hE : envOK Γ St) {adV : Nat → Nat} (hX : envX Γ St adV) (hl : l.stackTraces = false) : k_if_ge (SX Γ l St NC) := by
  intro _ _ _ _ _ _ _ _ _ _ g0 g1 k1 k2 hM
  exact sn_if_ge hE g0 g1 (fun q => k1 q hM) (fun q => k2 q hM)
theorem xx_if_gt (hE : envOK Γ St) {adV : Nat → Nat} (hX : envX Γ St adV) (hl : l.stackTraces = false) : k_if_gt (SX Γ l St NC) := by
  intro _ _ _ _ _ _ _ _ _ _ g0 g1 k1 k2 hM
  exact sn_if_gt hE g0 g1 (fun q => k1 q hM) (fun q => k2 q hM)
theorem xx_if_le (hE : envOK Γ St) {adV : Nat → Nat} (hX : envX Γ St adV) (hl : l.stackTraces = false) : k_if_le (SX Γ l St NC) := by
  intro _ _ _ _ _ _ _ _ _ _ g0 g1 k1 k2 hM
  exact sn_if_le hE g0 g1 (fun q => k1 q hM) (fun q => k2 q hM)
theorem xx_icmp_eq (hE : envOK Γ St) {adV : Nat → Nat} (hX : envX Γ St adV) (hl : l.stackTraces = false) : k_icmp_eq (SX Γ l St NC) := by
  intro _ _ _ _ _ _ _ _ _ _ _ g0 g1 k1 k2 hM
  exact sn_icmp_eq hE g0 g1 (fun q => k1 q hM) (fun q => k2 q hM)
theorem xx_icmp_ne (hE : envOK Γ St) {adV : Nat → Nat} (hX : envX Γ St adV) (hl : l.stackTraces = false) : k_icmp_ne (SX Γ l St NC) := by
  intro _ _ _ _ _ _ _ _ _ _ _ g0 g1 k1 k2 hM
  exact sn_icmp_ne hE g0 g1 (fun q => k1 q hM) (fun q => k2 q hM)
theorem xx_icmp_lt (hE : envOK Γ St) {adV : Nat → Nat} (hX : envX Γ St adV) (hl : l.stackTraces = false) : k_icmp_lt (SX Γ l St NC) := by
  intro _ _ _ _ _ _ _ _ _ _ _ g0 g1 k1 k2 hM
  exact sn_icmp_lt hE g0 g1 (fun q => k1 q hM) (fun q => k2 q hM)
theorem xx_icmp_ge (hE : envOK Γ St) {adV : Nat → Nat} (hX : envX Γ St adV) (hl : l.stackTraces = false) : k_icmp_ge (SX Γ l St NC) := by
  intro _ _ _ _ _ _ _ _ _ _ _ g0 g1 k1 k2 hM
  exact sn_icmp_ge hE g0 g1 (fun q => k1 q hM) (fun q => k2 q hM)
theorem xx_icmp_gt (hE : envOK Γ St) {adV : Nat → Nat} (hX : envX Γ St adV) (hl : l.stackTraces = false) : k_icmp_gt (SX Γ l St NC) := by
  intro _ _ _ _ _ _ _ _ _ _ _ g0 g1 k1 k2 hM
  exact sn_icmp_gt hE g0 g1 (fun q => k1 q hM) (fun q => k2 q hM)
theorem xx_icmp_le (hE : envOK Γ St) {adV : Nat → Nat} (hX : envX Γ St adV) (hl : l.stackTraces = false) : k_icmp_le (SX Γ l St NC) := by
  intro _ _ _ _ _ _ _ _ _ _ _ g0 g1 k1 k2 hM
  exact sn_icmp_le hE g0 g1 (fun q => k1 q hM) (fun q => k2 q hM)
theorem xx_goto (hE : envOK Γ St) {adV : Nat → Nat} (hX : envX Γ St adV) (hl : l.stackTraces = false) : k_goto (SX Γ l St NC) := by
  intro _ _ _ _ _ _ _ _ _ g0 g1 k hM
  exact sn_goto hE g0 g1 (k hM)
theorem xx_tabI (hE : envOK Γ St) {adV : Nat → Nat} (hX : envX Γ St adV) (hl : l.stackTraces = false) : k_tabI (SX Γ l St NC) := by
  intro _ _ _ _ _ _ _ _ _ _ _ _ _ _ _ g0 g1 g2 g3 g4 k hM
  exact sn_tabI hE g0 g1 g2 g3 g4 (k hM)
theorem xx_tabO (hE : envOK Γ St) {adV : Nat → Nat} (hX : envX Γ St adV) (hl : l.stackTraces = false) : k_tabO (SX Γ l St NC) := by
  intro _ _ _ _ _ _ _ _ _ _ _ _ _ _ g0 g1 g2 k hM
  exact sn_tabO hE g0 g1 g2 (k hM)
theorem xx_istore_n (hE : envOK Γ St) {adV : Nat → Nat} (hX : envX Γ St adV) (hl : l.stackTraces = false) : k_istore_n (SX Γ l St NC) := by
  intro _ _ _ _ _ _ _ _ _ _ g0 g1 g2 k hM
  exact sn_istore_n hE g0 g1 g2 (k hM)
theorem xx_istore (hE : envOK Γ St) {adV : Nat → Nat} (hX : envX Γ St adV) (hl : l.stackTraces = false) : k_istore (SX Γ l St NC) := by
  intro _ _ _ _ _ _ _ _ _ g0 g1 k hM
  exact sn_istore hE g0 g1 (k hM)
theorem xx_astore_n (hE : envOK Γ St) {adV : Nat → Nat} (hX : envX Γ St adV) (hl : l.stackTraces = false) : k_astore_n (SX Γ l St NC) := by
  intro _ _ _ _ _ _ _ _ _ _ g0 g1 g2 k hM
  exact sn_astore_n hE g0 g1 g2 (k hM)
theorem xx_astore (hE : envOK Γ St) {adV : Nat → Nat} (hX : envX Γ St adV) (hl : l.stackTraces = false) : k_astore (SX Γ l St NC) := by
  intro _ _ _ _ _ _ _ _ _ g0 g1 k hM
  exact sn_astore hE g0 g1 (k hM)
theorem xx_iinc (hE : envOK Γ St) {adV : Nat → Nat} (hX : envX Γ St adV) (hl : l.stackTraces = false) : k_iinc (SX Γ l St NC) := by
  intro _ _ _ _ _ _ _ _ _ _ _ g0 g1 g2 g3 k hM
  exact sn_iinc hE g0 g1 g2 g3 (k hM)
theorem xx_putf (hE : envOK Γ St) {adV : Nat → Nat} (hX : envX Γ St adV) (hl : l.stackTraces = false) : k_putf NC (SX Γ l St NC) := by
  intro _ _ _ _ _ _ _ _ _ _ _ _ _ _ _ _ _ g0 g1 g2 g3 g4 g5 g6 g7 g8 k hM
  exact sn_putf hE g0 g1 g2 g3 g4 g5 g6 g7 g8 (k hM)
theorem xx_iast (hE : envOK Γ St) {adV : Nat → Nat} (hX : envX Γ St adV) (hl : l.stackTraces = false) : k_iast NC (SX Γ l St NC) := by
  intro _ _ _ _ _ _ _ _ _ _ _ _ g0 g1 g2 g3 k hM
  exact sn_iast hE g0 g1 g2 g3 (k hM)
theorem xx_bast (hE : envOK Γ St) {adV : Nat → Nat} (hX : envX Γ St adV) (hl : l.stackTraces = false) : k_bast NC (SX Γ l St NC) := by
  intro _ _ _ _ _ _ _ _ _ _ _ _ g0 g1 g2 g3 k hM
  exact sn_bast hE g0 g1 g2 g3 (k hM)
theorem xx_zast (hE : envOK Γ St) {adV : Nat → Nat} (hX : envX Γ St adV) (hl : l.stackTraces = false) : k_zast NC (SX Γ l St NC) := by
  intro _ _ _ _ _ _ _ _ _ _ _ _ g0 g1 g2 g3 k hM
  exact sn_zast hE g0 g1 g2 g3 (k hM)
theorem xx_iret (hE : envOK Γ St) {adV : Nat → Nat} (hX : envX Γ St adV) (hl : l.stackTraces = false) : k_iret (SX Γ l St NC) := by
  intro _ _ _ _ _ _ g0 g1 g2 hM
  exact sn_iret hE g0 g1 g2
theorem xx_zret (hE : envOK Γ St) {adV : Nat → Nat} (hX : envX Γ St adV) (hl : l.stackTraces = false) : k_zret (SX Γ l St NC) := by
  intro _ _ _ _ _ _ g0 g1 g2 g3 hM
  exact sn_zret hE g0 g1 g2 g3
theorem xx_vret (hE : envOK Γ St) {adV : Nat → Nat} (hX : envX Γ St adV) (hl : l.stackTraces = false) : k_vret (SX Γ l St NC) := by
  intro _ _ _ _ _ g0 g1 g2 hM
  exact sn_vret hE g0 g1 g2
theorem xx_fret (hE : envOK Γ St) {adV : Nat → Nat} (hX : envX Γ St adV) (hl : l.stackTraces = false) : k_fret (SX Γ l St NC) := by
  intro _ _ _ _ _ _ g0 g1 g2 hM
  exact sn_fret hE g0 g1 g2
theorem xx_cvi (hE : envOK Γ St) {adV : Nat → Nat} (hX : envX Γ St adV) (hl : l.stackTraces = false) : k_cvi NC (SX Γ l St NC) := by
  intro _ _ _ _ _ _ _ _ _ _ _ _ _ _ _ _ _  g0 g1 g2 g3 g4 g5 g6 g7 g8 k1 k2 hM
  exact sn_cvi hE g0 g1 g2 g3 g4 g5 g6 g7 g8 (k1 g1.1.2.2.1) (fun r h1 q => k2 r h1 q hM)
theorem xx_csi (hE : envOK Γ St) {adV : Nat → Nat} (hX : envX Γ St adV) (hl : l.stackTraces = false) : k_csi (SX Γ l St NC) := by
  intro _ _ _ _ _ _ _ _ _ _ _ _  g0 g1 g2 g3 g4 g5 k1 k2 hM
  exact sn_csi hE g0 g1 g2 g3 g4 g5 (k1 g1.1.2.2.1) (fun r h1 q => k2 r h1 q hM)
theorem xx_cvv (hE : envOK Γ St) {adV : Nat → Nat} (hX : envX Γ St adV) (hl : l.stackTraces = false) : k_cvv NC (SX Γ l St NC) := by
  intro _ _ _ _ _ _ _ _ _ _ _ _ _ _ _ _ _  g0 g1 g2 g3 g4 g5 g6 g7 g8 k1 k2 hM
  exact sn_cvv hE g0 g1 g2 g3 g4 g5 g6 g7 g8 (k1 g1.1.2.2.1) (fun h1 q => k2 h1 q hM)
theorem xx_csv (hE : envOK Γ St) {adV : Nat → Nat} (hX : envX Γ St adV) (hl : l.stackTraces = false) : k_csv (SX Γ l St NC) := by
  intro _ _ _ _ _ _ _ _ _ _ _ _  g0 g1 g2 g3 g4 g5 k1 k2 hM
  exact sn_csv hE g0 g1 g2 g3 g4 g5 (k1 g1.1.2.2.1) (fun h1 q => k2 h1 q hM)
theorem xx_cvx (hE : envOK Γ St) {adV : Nat → Nat} (hX : envX Γ St adV) (hl : l.stackTraces = false) : k_cvx NC (SX Γ l St NC) := by
  intro _ _ _ _ _ _ _ _ _ _ _ _ _ _ _ _ _  g0 g1 g2 g3 g4 g5 g6 g7 g8 k1 k2 hM
  exact sn_cvx hE g0 g1 g2 g3 g4 g5 g6 g7 g8 (k1 g1.1.2.2.1) k2
theorem xx_csx (hE : envOK Γ St) {adV : Nat → Nat} (hX : envX Γ St adV) (hl : l.stackTraces = false) : k_csx (SX Γ l St NC) := by
  intro _ _ _ _ _ _ _ _ _ _ _ _  g0 g1 g2 g3 g4 g5 k1 k2 hM
  exact sn_csx hE g0 g1 g2 g3 g4 g5 (k1 g1.1.2.2.1) k2
theorem xx_thr (hE : envOK Γ St) {adV : Nat → Nat} (hX : envX Γ St adV) (hl : l.stackTraces = false) : k_thr (SX Γ l St NC) := by
  intro _ _ _ _ _ _ g0 g1 g2 g3 hM
  exact sn_thr hE hX hl hM g0 g1 g2 g3
theorem xx_l_max (hE : envOK Γ St) {adV : Nat → Nat} (hX : envX Γ St adV) (hl : l.stackTraces = false) : k_l_max (SX Γ l St NC) := by
  intro _ _ _ _ _ _ _ _ _ _  g0 g1 g2 g3 k hM
  exact sn_l_max hE g0 g1 g2 g3 (k hM)
theorem xx_l_min (hE : envOK Γ St) {adV : Nat → Nat} (hX : envX Γ St adV) (hl : l.stackTraces = false) : k_l_min (SX Γ l St NC) := by
  intro _ _ _ _ _ _ _ _ _ _  g0 g1 g2 g3 k hM
  exact sn_l_min hE g0 g1 g2 g3 (k hM)
theorem xx_l_abs (hE : envOK Γ St) {adV : Nat → Nat} (hX : envX Γ St adV) (hl : l.stackTraces = false) : k_l_abs (SX Γ l St NC) := by
  intro _ _ _ _ _ _ _ _ _  g0 g1 g2 g3 k hM
  exact sn_l_abs hE g0 g1 g2 g3 (k hM)
theorem xx_l_compare (hE : envOK Γ St) {adV : Nat → Nat} (hX : envX Γ St adV) (hl : l.stackTraces = false) : k_l_compare (SX Γ l St NC) := by
  intro _ _ _ _ _ _ _ _ _ _  g0 g1 g2 g3 k hM
  exact sn_l_compare hE g0 g1 g2 g3 (k hM)
theorem xx_l_fill (hE : envOK Γ St) {adV : Nat → Nat} (hX : envX Γ St adV) (hl : l.stackTraces = false) : k_l_fill NC (SX Γ l St NC) := by
  intro _ _ _ _ _ _ _ _ _ _ _ _  g0 g1 g2 g3 g4 g5 g6 k hM
  exact sn_l_fill hE g0 g1 g2 g3 g4 g5 g6 (k hM)
theorem xx_l_copy (hE : envOK Γ St) {adV : Nat → Nat} (hX : envX Γ St adV) (hl : l.stackTraces = false) : k_l_copy NC (SX Γ l St NC) := by
  intro _ _ _ _ _ _ _ _ _ _ _ _ _ _ _  g0 g1 g2 g3 g4 g5 g6 g7 g8 g9 g10 k hM
  exact sn_l_copy hE g0 g1 g2 g3 g4 g5 g6 g7 g8 g9 g10 (k hM)
theorem xx_l_length (hE : envOK Γ St) {adV : Nat → Nat} (hX : envX Γ St adV) (hl : l.stackTraces = false) : k_l_length (SX Γ l St NC) := by
  intro _ _ _ _ _ _ _ _ _ _  g0 g1 g2 g3 g4 g5 k hM
  exact sn_l_length hE hX g0 g1 g2 g3 g4 g5 (k hM)
theorem xx_l_charAt (hE : envOK Γ St) {adV : Nat → Nat} (hX : envX Γ St adV) (hl : l.stackTraces = false) : k_l_charAt (SX Γ l St NC) := by
  intro _ _ _ _ _ _ _ _ _ _ _ _  g0 g1 g2 g3 g4 g5 g6 g7 k hM
  exact sn_l_charAt hE hX g0 g1 g2 g3 g4 g5 g6 g7 (k hM)
theorem am_snd (hE : envOK Γ St) {adV : Nat → Nat} (hX : envX Γ St adV) (hl : l.stackTraces = false) : am_cl NC (SX Γ l St NC) :=
  ⟨xx_iconst hE hX hl, xx_bipush hE hX hl, xx_sipush hE hX hl, xx_ldcI hE hX hl, xx_iload_n hE hX hl, xx_iload hE hX hl, xx_aload_n hE hX hl, xx_aload hE hX hl, xx_iadd hE hX hl, xx_isub hE hX hl, xx_imul hE hX hl, xx_iand hE hX hl, xx_ior hE hX hl, xx_ishl hE hX hl, xx_ishr hE hX hl, xx_idiv hE hX hl, xx_irem hE hX hl, xx_ineg hE hX hl, xx_iushr hE hX hl, xx_i2b hE hX hl, xx_dup hE hX hl, xx_dup2 hE hX hl, xx_pop hE hX hl, xx_fconst0 hE hX hl, xx_i2f hE hX hl, xx_fdiv hE hX hl, xx_getf hE hX hl, xx_iald hE hX hl, xx_bald hE hX hl, xx_zald hE hX hl, xx_aald hE hX hl, xx_aalg hE hX hl, xx_alen hE hX hl, xx_tld hE hX hl, xx_tlen hE hX hl, xx_gets hE hX hl, xx_ldcS hE hX hl, xx_if_eq hE hX hl, xx_if_ne hE hX hl, xx_if_lt hE hX hl, xx_if_ge hE hX hl, xx_if_gt hE hX hl, xx_if_le hE hX hl, xx_icmp_eq hE hX hl, xx_icmp_ne hE hX hl, xx_icmp_lt hE hX hl, xx_icmp_ge hE hX hl, xx_icmp_gt hE hX hl, xx_icmp_le hE hX hl, xx_goto hE hX hl, xx_tabI hE hX hl, xx_tabO hE hX hl, xx_istore_n hE hX hl, xx_istore hE hX hl, xx_astore_n hE hX hl, xx_astore hE hX hl, xx_iinc hE hX hl, xx_putf hE hX hl, xx_iast hE hX hl, xx_bast hE hX hl, xx_zast hE hX hl, xx_iret hE hX hl, xx_zret hE hX hl, xx_vret hE hX hl, xx_fret hE hX hl, xx_cvi hE hX hl, xx_csi hE hX hl, xx_cvv hE hX hl, xx_csv hE hX hl, xx_cvx hE hX hl, xx_csx hE hX hl, xx_thr hE hX hl, xx_l_max hE hX hl, xx_l_min hE hX hl, xx_l_abs hE hX hl, xx_l_compare hE hX hl, xx_l_fill hE hX hl, xx_l_copy hE hX hl, xx_l_length hE hX hl, xx_l_charAt hE hX hl⟩
theorem cl_met (hE : envOK Γ St) {adV : Nat → Nat} (hX : envX Γ St adV) (hl : l.stackTraces = false) {Y : mt} {As : List Value} {h : hp} {Q : qt} (hcd : Cond.code Y.1 Y.2.1 Y.2.2.1 Y.2.2.2.1 ∈ gT) (hpl : plainName Y.1.cls = true) (hc : cat1 As) (hn : As.length ≤ Y.2.2.1) (k : Cl NC Y As h Q) : Met l Y.1 (wsM Y) (rmM none Y) (PcM Γ St NC h As) (QcM Γ NC Y Q) 0 0 Γ.2.2.2 :=
  met_of hE hpl hc hn (k _ (am_snd hE hX hl) hcd)
theorem ct_met (hE : envOK Γ St) {adV : Nat → Nat} (hX : envX Γ St adV) (hl : l.stackTraces = false) {E : String} {Y : mt} {As : List Value} {h : hp} {Q : qt} (hcd : Cond.code Y.1 Y.2.1 Y.2.2.1 Y.2.2.2.1 ∈ gT) (hpl : plainName Y.1.cls = true) (hc : cat1 As) (hn : As.length ≤ Y.2.2.1) (k : Ct NC E Y As h Q) : vx_Met l Y.1 (wsM Y) (rmM (some E) Y) (PcM Γ St NC h As) (fun _ _ _ _ => False) (XCx Γ NC E Q) 1 6 Γ.2.2.2 :=
  metx_of hE hpl hc hn (k _ (am_snd hE hX hl) hcd)
end ALL
