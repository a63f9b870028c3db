/-! ===== A REQUEST IS APPLIED ===== -/
def kAp1 (K : KK) (s c : Nat) (r : ENT) : KK := kSet K 19 s (8 + c) (r 3)
/-- a request of client c about key ky, applied to the table of server s -/
def kApply (K : KK) (s c ky : Nat) (r : ENT) : KK :=
  if r 3 ≤ K.1 19 s (8 + c) then K
  else if r 1 = 1 then kSet (kSet (kAp1 K s c r) 19 s ky (r 5)) 19 s (12 + c) ((kAp1 K s c r).1 19 s ky)
  else if r 1 = 2 then kSet (kSet (kAp1 K s c r) 19 s ky ((kAp1 K s c r).1 19 s ky + r 5)) 19 s (12 + c) ((kSet (kAp1 K s c r) 19 s ky ((kAp1 K s c r).1 19 s ky + r 5)).1 19 s ky)
  else if (kAp1 K s c r).1 19 s ky = r 6 then kSet (kSet (kAp1 K s c r) 19 s ky (r 5)) 19 s (12 + c) 1
  else kSet (kSet (kAp1 K s c r) 19 s ky ((kAp1 K s c r).1 19 s ky)) 19 s (12 + c) 0
theorem c_93 {X : XS} {o s : Nat} (ho : o < 2) (hs : s < 7) {q c ky : Nat} {r : ENT} (hq : dRq (xD X) q r) (hc : r 2 = Int32.ofNat c) (hk : r 4 = Int32.ofNat ky) (hc4 : c < 4) (hk8 : ky < 8) : RT 93 [some (.ref (aS o s + 1)), some (.ref q), none] X none (xSetK X o (kApply (xK X o) s c ky r)) := by
  refine AT.aload_n M_93 rfl rfl ?_
  refine AT.f_5_1 M_93 rfl (by assumption) ?_
  refine AT.aload_n M_93 rfl rfl ?_
  refine AT.f_8_1 M_93 rfl (by assumption) (by assumption) ?_
  refine AT.aload_n M_93 rfl rfl ?_
  refine AT.f_5_0 M_93 rfl (by assumption) ?_
  refine AT.a_ser M_93 rfl hc (by assumption) (by assumption) (by assumption) ?_
  refine AT.icmp_gt M_93 rfl (fun b7 => ?_) (fun b7 => ?_)
  · refine AT.aload_n M_93 rfl rfl ?_
    refine AT.f_8_1 M_93 rfl (by assumption) (by assumption) ?_
    refine AT.aload_n M_93 rfl rfl ?_
    refine AT.f_5_0 M_93 rfl (by assumption) ?_
    refine AT.aload_n M_93 rfl rfl ?_
    refine AT.f_5_1 M_93 rfl (by assumption) ?_
    refine AT.s_ser M_93 rfl hc (by assumption) (by assumption) (by assumption) ?_
    try simp only [xK_same, xSetK_idem, xD_setK]
    refine AT.aload_n M_93 rfl rfl ?_
    refine AT.f_8_0 M_93 rfl (by assumption) (by assumption) ?_
    refine AT.aload_n M_93 rfl rfl ?_
    refine AT.f_5_3 M_93 rfl (by assumption) ?_
    refine AT.a_val M_93 rfl hk (by assumption) (by assumption) (by assumption) ?_
    refine AT.ist2 M_93 rfl rfl ?_
    refine AT.aload_n M_93 rfl rfl ?_
    refine AT.f_5_2 M_93 rfl (by assumption) ?_
    refine AT.iconst M_93 rfl (v := 1) (by decide) ?_
    refine AT.icmp_ne M_93 rfl (fun b25 => ?_) (fun b25 => ?_)
    · refine AT.aload_n M_93 rfl rfl ?_
      refine AT.f_5_2 M_93 rfl (by assumption) ?_
      refine AT.iconst M_93 rfl (v := 2) (by decide) ?_
      refine AT.icmp_ne M_93 rfl (fun b43 => ?_) (fun b43 => ?_)
      · refine AT.aload_n M_93 rfl rfl ?_
        refine AT.f_8_0 M_93 rfl (by assumption) (by assumption) ?_
        refine AT.aload_n M_93 rfl rfl ?_
        refine AT.f_5_3 M_93 rfl (by assumption) ?_
        refine AT.iload_n M_93 rfl rfl ?_
        refine AT.aload_n M_93 rfl rfl ?_
        refine AT.f_5_4 M_93 rfl (by assumption) ?_
        refine AT.icmp_ne M_93 rfl (fun b71 => ?_) (fun b71 => ?_)
        · refine AT.iload_n M_93 rfl rfl ?_
          refine AT.s_val M_93 rfl hk (by assumption) (by assumption) (by assumption) ?_
          try simp only [xK_same, xSetK_idem, xD_setK]
          refine AT.aload_n M_93 rfl rfl ?_
          refine AT.f_8_2 M_93 rfl (by assumption) (by assumption) ?_
          refine AT.aload_n M_93 rfl rfl ?_
          refine AT.f_5_0 M_93 rfl (by assumption) ?_
          refine AT.iload_n M_93 rfl rfl ?_
          refine AT.aload_n M_93 rfl rfl ?_
          refine AT.f_5_4 M_93 rfl (by assumption) ?_
          refine AT.icmp_ne M_93 rfl (fun b84 => ?_) (fun b84 => ?_)
          · refine AT.iconst M_93 rfl (v := 0) (by decide) ?_
            refine AT.s_giv M_93 rfl hc (by assumption) (by assumption) (by assumption) ?_
            try simp only [xK_same, xSetK_idem, xD_setK]
            refine AT.vret M_93 rfl rfl ?_
            refine ⟨rfl, ?_⟩
            rw [xK_same] at b71
            unfold kApply
            rw [if_neg (fun z => Int32.not_lt.mpr z b7), if_neg b25, if_neg b43, if_neg (show ¬ (kAp1 (xK X o) s c r).1 19 s ky = r 6 from b71)]
            rfl
          · rw [xK_same] at b71
            exact absurd (Classical.not_not.mp b84) b71
        · refine AT.aload_n M_93 rfl rfl ?_
          refine AT.f_5_5 M_93 rfl (by assumption) ?_
          refine AT.goto M_93 rfl ?_
          refine AT.s_val M_93 rfl hk (by assumption) (by assumption) (by assumption) ?_
          try simp only [xK_same, xSetK_idem, xD_setK]
          refine AT.aload_n M_93 rfl rfl ?_
          refine AT.f_8_2 M_93 rfl (by assumption) (by assumption) ?_
          refine AT.aload_n M_93 rfl rfl ?_
          refine AT.f_5_0 M_93 rfl (by assumption) ?_
          refine AT.iload_n M_93 rfl rfl ?_
          refine AT.aload_n M_93 rfl rfl ?_
          refine AT.f_5_4 M_93 rfl (by assumption) ?_
          refine AT.icmp_ne M_93 rfl (fun b84 => ?_) (fun b84 => ?_)
          · rw [xK_same] at b71
            exact absurd (Classical.not_not.mp b71) b84
          · refine AT.iconst M_93 rfl (v := 1) (by decide) ?_
            refine AT.goto M_93 rfl ?_
            refine AT.s_giv M_93 rfl hc (by assumption) (by assumption) (by assumption) ?_
            try simp only [xK_same, xSetK_idem, xD_setK]
            refine AT.vret M_93 rfl rfl ?_
            refine ⟨rfl, ?_⟩
            rw [xK_same] at b71
            unfold kApply
            rw [if_neg (fun z => Int32.not_lt.mpr z b7), if_neg b25, if_neg b43, if_pos (show (kAp1 (xK X o) s c r).1 19 s ky = r 6 from Classical.not_not.mp b71)]
            rfl
      · refine AT.aload_n M_93 rfl rfl ?_
        refine AT.f_8_0 M_93 rfl (by assumption) (by assumption) ?_
        refine AT.aload_n M_93 rfl rfl ?_
        refine AT.f_5_3 M_93 rfl (by assumption) ?_
        refine AT.iload_n M_93 rfl rfl ?_
        refine AT.aload_n M_93 rfl rfl ?_
        refine AT.f_5_5 M_93 rfl (by assumption) ?_
        refine AT.iadd M_93 rfl rfl ?_
        refine AT.s_val M_93 rfl hk (by assumption) (by assumption) (by assumption) ?_
        try simp only [xK_same, xSetK_idem, xD_setK]
        refine AT.aload_n M_93 rfl rfl ?_
        refine AT.f_8_2 M_93 rfl (by assumption) (by assumption) ?_
        refine AT.aload_n M_93 rfl rfl ?_
        refine AT.f_5_0 M_93 rfl (by assumption) ?_
        refine AT.aload_n M_93 rfl rfl ?_
        refine AT.f_8_0 M_93 rfl (by assumption) (by assumption) ?_
        refine AT.aload_n M_93 rfl rfl ?_
        refine AT.f_5_3 M_93 rfl (by assumption) ?_
        refine AT.a_val M_93 rfl hk (by assumption) (by assumption) (by assumption) ?_
        refine AT.s_giv M_93 rfl hc (by assumption) (by assumption) (by assumption) ?_
        try simp only [xK_same, xSetK_idem, xD_setK]
        refine AT.goto M_93 rfl ?_
        refine AT.vret M_93 rfl rfl ?_
        refine ⟨rfl, ?_⟩
        unfold kApply
        rw [if_neg (fun z => Int32.not_lt.mpr z b7), if_neg b25, if_pos (Classical.not_not.mp b43)]
        rfl
    · refine AT.aload_n M_93 rfl rfl ?_
      refine AT.f_8_0 M_93 rfl (by assumption) (by assumption) ?_
      refine AT.aload_n M_93 rfl rfl ?_
      refine AT.f_5_3 M_93 rfl (by assumption) ?_
      refine AT.aload_n M_93 rfl rfl ?_
      refine AT.f_5_5 M_93 rfl (by assumption) ?_
      refine AT.s_val M_93 rfl hk (by assumption) (by assumption) (by assumption) ?_
      try simp only [xK_same, xSetK_idem, xD_setK]
      refine AT.aload_n M_93 rfl rfl ?_
      refine AT.f_8_2 M_93 rfl (by assumption) (by assumption) ?_
      refine AT.aload_n M_93 rfl rfl ?_
      refine AT.f_5_0 M_93 rfl (by assumption) ?_
      refine AT.iload_n M_93 rfl rfl ?_
      refine AT.s_giv M_93 rfl hc (by assumption) (by assumption) (by assumption) ?_
      try simp only [xK_same, xSetK_idem, xD_setK]
      refine AT.goto M_93 rfl ?_
      refine AT.vret M_93 rfl rfl ?_
      refine ⟨rfl, ?_⟩
      unfold kApply
      rw [if_neg (fun z => Int32.not_lt.mpr z b7), if_pos (Classical.not_not.mp b25)]
      rfl
  · refine AT.vret M_93 rfl rfl ?_
    refine ⟨rfl, ?_⟩
    unfold kApply
    rw [if_pos (Int32.not_lt.mp b7), xSetK_self]
