/-! ===== THE REFERENCE: an entry is applied ===== -/
theorem c_209_1 {X : XS} {o s : Nat} (h2 : 2 ≤ o) (h4 : o < 4) (hs : s < 7) {c ky j : Nat} {e : ENT} (he : ((xK X o).2.1 s)[j]? = some e) (hb : 7 * j + 7 < 2147483648) (hc : e 2 = Int32.ofNat c) (hk : e 4 = Int32.ofNat ky) (hc4 : c < 4) (hk8 : ky < 8) (e1 : e 1 = 1) : RT 209 [some (.ref (bB o)), some (.int (Int32.ofNat s)), some (.int (Int32.ofNat (7 * j))), some (.int 1), none, none, none, none, none, none] X none (xSetK X o (kAns2 (kApply (xK X o) s c ky e) s c e)) := by
  refine AT.aload_n M_209 rfl rfl ?_
  refine AT.r10_19 M_209 rfl h2 h4 ?_
  refine AT.iload_n M_209 rfl rfl ?_
  refine AT.rr_log M_209 rfl rfl h2 h4 (by assumption) ?_
  refine AT.iload_n M_209 rfl rfl ?_
  refine AT.iconst M_209 rfl (v := 2) (by decide) ?_
  refine AT.iadd M_209 rfl rfl ?_
  refine AT.ra_ent M_209 rfl he (c := 2) (by omega) (by rw [Int32.ofNat_add]; rfl) (by omega) h2 h4 (by assumption) ?_
  rw [hc]
  refine AT.ist4 M_209 rfl rfl ?_
  refine AT.aload_n M_209 rfl rfl ?_
  refine AT.r10_19 M_209 rfl h2 h4 ?_
  refine AT.iload_n M_209 rfl rfl ?_
  refine AT.rr_log M_209 rfl rfl h2 h4 (by assumption) ?_
  refine AT.iload_n M_209 rfl rfl ?_
  refine AT.iconst M_209 rfl (v := 3) (by decide) ?_
  refine AT.iadd M_209 rfl rfl ?_
  refine AT.ra_ent M_209 rfl he (c := 3) (by omega) (by rw [Int32.ofNat_add]; rfl) (by omega) h2 h4 (by assumption) ?_
  refine AT.ist5 M_209 rfl rfl ?_
  refine AT.aload_n M_209 rfl rfl ?_
  refine AT.r10_19 M_209 rfl h2 h4 ?_
  refine AT.iload_n M_209 rfl rfl ?_
  refine AT.rr_log M_209 rfl rfl h2 h4 (by assumption) ?_
  refine AT.iload_n M_209 rfl rfl ?_
  refine AT.iconst M_209 rfl (v := 4) (by decide) ?_
  refine AT.iadd M_209 rfl rfl ?_
  refine AT.ra_ent M_209 rfl he (c := 4) (by omega) (by rw [Int32.ofNat_add]; rfl) (by omega) h2 h4 (by assumption) ?_
  rw [hk]
  refine AT.ist6 M_209 rfl rfl ?_
  refine AT.aload_n M_209 rfl rfl ?_
  refine AT.r10_19 M_209 rfl h2 h4 ?_
  refine AT.iload_n M_209 rfl rfl ?_
  refine AT.rr_log M_209 rfl rfl h2 h4 (by assumption) ?_
  refine AT.iload_n M_209 rfl rfl ?_
  refine AT.iconst M_209 rfl (v := 5) (by decide) ?_
  refine AT.iadd M_209 rfl rfl ?_
  refine AT.ra_ent M_209 rfl he (c := 5) (by omega) (by rw [Int32.ofNat_add]; rfl) (by omega) h2 h4 (by assumption) ?_
  refine AT.ist7 M_209 rfl rfl ?_
  refine AT.aload_n M_209 rfl rfl ?_
  refine AT.r10_17 M_209 rfl h2 h4 ?_
  refine AT.iload_n M_209 rfl rfl ?_
  refine AT.rr_tab M_209 rfl rfl h2 h4 (by assumption) ?_
  refine AT.ast8 M_209 rfl rfl ?_
  refine AT.iload M_209 rfl rfl ?_
  refine AT.aload M_209 rfl rfl ?_
  refine AT.bipush M_209 rfl (v := 8) (by decide) ?_
  refine AT.iload M_209 rfl rfl ?_
  refine AT.iadd M_209 rfl rfl ?_
  refine AT.ra_tab M_209 rfl (j := 8 + c) (Int32.ofNat_add 8 c).symm h2 h4 (by assumption) (by omega) ?_
  refine AT.icmp_le M_209 rfl (fun b47 => ?_) (fun b47 => ?_)
  · refine AT.aload_n M_209 rfl rfl ?_
    refine AT.r10_5 M_209 rfl h2 h4 ?_
    refine AT.iload_n M_209 rfl rfl ?_
    refine AT.ra_12 M_209 rfl rfl h2 h4 (by assumption) ?_
    try simp only [xK_same]
    refine AT.iconst M_209 rfl (v := 3) (by decide) ?_
    refine AT.icmp_ne M_209 rfl (fun b125 => ?_) (fun b125 => ?_)
    · refine AT.vret M_209 rfl rfl ?_
      have hK : kApply (xK X o) s c ky e = xK X o := if_pos b47
      rw [show kAns2 (kApply (xK X o) s c ky e) s c e = kApply (xK X o) s c ky e from if_neg (fun z => by rw [hK] at z; exact b125 z.1), hK]
      rw [xSetK_self]
      exact ⟨rfl, rfl⟩
    · refine AT.iload M_209 rfl rfl ?_
      refine AT.aload_n M_209 rfl rfl ?_
      refine AT.r10_25 M_209 rfl h2 h4 ?_
      refine AT.iload M_209 rfl rfl ?_
      refine AT.bipush M_209 rfl (v := 7) (by decide) ?_
      refine AT.imul M_209 rfl rfl ?_
      refine AT.iconst M_209 rfl (v := 3) (by decide) ?_
      refine AT.iadd M_209 rfl rfl ?_
      refine AT.ra_req M_209 rfl (c := c) (j := 3) hc4 (by omega) (by rw [Int32.ofNat_add, Nat.mul_comm, Int32.ofNat_mul]; rfl) h2 h4 ?_
      try simp only [xK_same]
      refine AT.icmp_eq M_209 rfl (fun b135 => ?_) (fun b135 => ?_)
      · refine AT.aload_n M_209 rfl rfl ?_
        refine AT.r10_26 M_209 rfl h2 h4 ?_
        refine AT.iload M_209 rfl rfl ?_
        refine AT.iconst M_209 rfl (v := 1) (by decide) ?_
        refine AT.rs_35 M_209 rfl (by first | exact Or.inl rfl | exact Or.inr rfl | assumption) rfl h2 h4 (by assumption) ?_
        try simp only [xK_same, xSetK_idem, xD_setK]
        refine AT.aload_n M_209 rfl rfl ?_
        refine AT.r10_27 M_209 rfl h2 h4 ?_
        refine AT.iload M_209 rfl rfl ?_
        refine AT.aload M_209 rfl rfl ?_
        refine AT.bipush M_209 rfl (v := 12) (by decide) ?_
        refine AT.iload M_209 rfl rfl ?_
        refine AT.iadd M_209 rfl rfl ?_
        refine AT.ra_tab M_209 rfl (j := 12 + c) (Int32.ofNat_add 12 c).symm h2 h4 (by assumption) (by omega) ?_
        refine AT.rs_36 M_209 rfl rfl h2 h4 (by assumption) ?_
        try simp only [xK_same, xSetK_idem, xD_setK]
        refine AT.vret M_209 rfl rfl ?_
        have hK : kApply (xK X o) s c ky e = xK X o := if_pos b47
        rw [show kAns2 (kApply (xK X o) s c ky e) s c e = kSet (kSet (kApply (xK X o) s c ky e) 35 c 0 1) 36 c 0 ((kApply (xK X o) s c ky e).1 19 s (12 + c)) from if_pos (by rw [hK]; exact ⟨Classical.not_not.mp b125, b135.symm⟩), hK]
        exact ⟨rfl, rfl⟩
      · refine AT.vret M_209 rfl rfl ?_
        have hK : kApply (xK X o) s c ky e = xK X o := if_pos b47
        rw [show kAns2 (kApply (xK X o) s c ky e) s c e = kApply (xK X o) s c ky e from if_neg (fun z => by rw [hK] at z; exact b135 z.2.symm), hK]
        rw [xSetK_self]
        exact ⟨rfl, rfl⟩
  · refine AT.aload M_209 rfl rfl ?_
    refine AT.bipush M_209 rfl (v := 8) (by decide) ?_
    refine AT.iload M_209 rfl rfl ?_
    refine AT.iadd M_209 rfl rfl ?_
    refine AT.iload M_209 rfl rfl ?_
    refine AT.rs_tab M_209 rfl (j := 8 + c) (Int32.ofNat_add 8 c).symm h2 h4 (by assumption) (by omega) ?_
    try simp only [xK_same, xSetK_idem, xD_setK]
    refine AT.aload M_209 rfl rfl ?_
    refine AT.iload M_209 rfl rfl ?_
    refine AT.ra_tab M_209 rfl (j := ky) rfl h2 h4 (by assumption) (by omega) ?_
    simp only [xK_same]
    refine AT.ist9 M_209 rfl rfl ?_
    refine AT.iload_n M_209 rfl rfl ?_
    refine AT.iconst M_209 rfl (v := 1) (by decide) ?_
    refine AT.icmp_ne M_209 rfl (fun b60 => absurd b60 (by decide)) (fun b60 => ?_)
    refine AT.aload M_209 rfl rfl ?_
    refine AT.iload M_209 rfl rfl ?_
    refine AT.iload M_209 rfl rfl ?_
    refine AT.rs_tab M_209 rfl (j := ky) rfl h2 h4 (by assumption) (by omega) ?_
    try simp only [xK_same, xSetK_idem, xD_setK]
    refine AT.goto M_209 rfl ?_
    refine AT.aload M_209 rfl rfl ?_
    refine AT.bipush M_209 rfl (v := 12) (by decide) ?_
    refine AT.iload M_209 rfl rfl ?_
    refine AT.iadd M_209 rfl rfl ?_
    refine AT.iload_n M_209 rfl rfl ?_
    refine AT.iconst M_209 rfl (v := 1) (by decide) ?_
    refine AT.icmp_ne M_209 rfl (fun b96 => absurd b96 (by decide)) (fun b96 => ?_)
    refine AT.iload M_209 rfl rfl ?_
    refine AT.goto M_209 rfl ?_
    refine AT.rs_tab M_209 rfl (j := 12 + c) (Int32.ofNat_add 12 c).symm h2 h4 (by assumption) (by omega) ?_
    try simp only [xK_same, xSetK_idem, xD_setK]
    refine AT.aload_n M_209 rfl rfl ?_
    refine AT.r10_5 M_209 rfl h2 h4 ?_
    refine AT.iload_n M_209 rfl rfl ?_
    refine AT.ra_12 M_209 rfl rfl h2 h4 (by assumption) ?_
    try simp only [xK_same]
    refine AT.iconst M_209 rfl (v := 3) (by decide) ?_
    refine AT.icmp_ne M_209 rfl (fun b125 => ?_) (fun b125 => ?_)
    · refine AT.vret M_209 rfl rfl ?_
      have hK : kApply (xK X o) s c ky e = kSet (kSet (kSet (xK X o) 19 s (8 + c) (e 3)) 19 s ky (e 5)) 19 s (12 + c) ((kSet (xK X o) 19 s (8 + c) (e 3)).1 19 s ky) := (if_neg b47).trans (if_pos e1)
      rw [show kAns2 (kApply (xK X o) s c ky e) s c e = kApply (xK X o) s c ky e from if_neg (fun z => by rw [hK] at z; exact b125 z.1), hK]
      exact ⟨rfl, rfl⟩
    · refine AT.iload M_209 rfl rfl ?_
      refine AT.aload_n M_209 rfl rfl ?_
      refine AT.r10_25 M_209 rfl h2 h4 ?_
      refine AT.iload M_209 rfl rfl ?_
      refine AT.bipush M_209 rfl (v := 7) (by decide) ?_
      refine AT.imul M_209 rfl rfl ?_
      refine AT.iconst M_209 rfl (v := 3) (by decide) ?_
      refine AT.iadd M_209 rfl rfl ?_
      refine AT.ra_req M_209 rfl (c := c) (j := 3) hc4 (by omega) (by rw [Int32.ofNat_add, Nat.mul_comm, Int32.ofNat_mul]; rfl) h2 h4 ?_
      try simp only [xK_same]
      refine AT.icmp_eq M_209 rfl (fun b135 => ?_) (fun b135 => ?_)
      · refine AT.aload_n M_209 rfl rfl ?_
        refine AT.r10_26 M_209 rfl h2 h4 ?_
        refine AT.iload M_209 rfl rfl ?_
        refine AT.iconst M_209 rfl (v := 1) (by decide) ?_
        refine AT.rs_35 M_209 rfl (by first | exact Or.inl rfl | exact Or.inr rfl | assumption) rfl h2 h4 (by assumption) ?_
        try simp only [xK_same, xSetK_idem, xD_setK]
        refine AT.aload_n M_209 rfl rfl ?_
        refine AT.r10_27 M_209 rfl h2 h4 ?_
        refine AT.iload M_209 rfl rfl ?_
        refine AT.aload M_209 rfl rfl ?_
        refine AT.bipush M_209 rfl (v := 12) (by decide) ?_
        refine AT.iload M_209 rfl rfl ?_
        refine AT.iadd M_209 rfl rfl ?_
        refine AT.ra_tab M_209 rfl (j := 12 + c) (Int32.ofNat_add 12 c).symm h2 h4 (by assumption) (by omega) ?_
        refine AT.rs_36 M_209 rfl rfl h2 h4 (by assumption) ?_
        try simp only [xK_same, xSetK_idem, xD_setK]
        refine AT.vret M_209 rfl rfl ?_
        have hK : kApply (xK X o) s c ky e = kSet (kSet (kSet (xK X o) 19 s (8 + c) (e 3)) 19 s ky (e 5)) 19 s (12 + c) ((kSet (xK X o) 19 s (8 + c) (e 3)).1 19 s ky) := (if_neg b47).trans (if_pos e1)
        rw [show kAns2 (kApply (xK X o) s c ky e) s c e = kSet (kSet (kApply (xK X o) s c ky e) 35 c 0 1) 36 c 0 ((kApply (xK X o) s c ky e).1 19 s (12 + c)) from if_pos (by rw [hK]; exact ⟨Classical.not_not.mp b125, b135.symm⟩), hK]
        exact ⟨rfl, rfl⟩
      · refine AT.vret M_209 rfl rfl ?_
        have hK : kApply (xK X o) s c ky e = kSet (kSet (kSet (xK X o) 19 s (8 + c) (e 3)) 19 s ky (e 5)) 19 s (12 + c) ((kSet (xK X o) 19 s (8 + c) (e 3)).1 19 s ky) := (if_neg b47).trans (if_pos e1)
        rw [show kAns2 (kApply (xK X o) s c ky e) s c e = kApply (xK X o) s c ky e from if_neg (fun z => by rw [hK] at z; exact b135 z.2.symm), hK]
        exact ⟨rfl, rfl⟩
theorem c_209_2 {X : XS} {o s : Nat} (h2 : 2 ≤ o) (h4 : o < 4) (hs : s < 7) {c ky j : Nat} {e : ENT} (he : ((xK X o).2.1 s)[j]? = some e) (hb : 7 * j + 7 < 2147483648) (hc : e 2 = Int32.ofNat c) (hk : e 4 = Int32.ofNat ky) (hc4 : c < 4) (hk8 : ky < 8) (e1 : e 1 = 2) : RT 209 [some (.ref (bB o)), some (.int (Int32.ofNat s)), some (.int (Int32.ofNat (7 * j))), some (.int 2), none, none, none, none, none, none] X none (xSetK X o (kAns2 (kApply (xK X o) s c ky e) s c e)) := by
  refine AT.aload_n M_209 rfl rfl ?_
  refine AT.r10_19 M_209 rfl h2 h4 ?_
  refine AT.iload_n M_209 rfl rfl ?_
  refine AT.rr_log M_209 rfl rfl h2 h4 (by assumption) ?_
  refine AT.iload_n M_209 rfl rfl ?_
  refine AT.iconst M_209 rfl (v := 2) (by decide) ?_
  refine AT.iadd M_209 rfl rfl ?_
  refine AT.ra_ent M_209 rfl he (c := 2) (by omega) (by rw [Int32.ofNat_add]; rfl) (by omega) h2 h4 (by assumption) ?_
  rw [hc]
  refine AT.ist4 M_209 rfl rfl ?_
  refine AT.aload_n M_209 rfl rfl ?_
  refine AT.r10_19 M_209 rfl h2 h4 ?_
  refine AT.iload_n M_209 rfl rfl ?_
  refine AT.rr_log M_209 rfl rfl h2 h4 (by assumption) ?_
  refine AT.iload_n M_209 rfl rfl ?_
  refine AT.iconst M_209 rfl (v := 3) (by decide) ?_
  refine AT.iadd M_209 rfl rfl ?_
  refine AT.ra_ent M_209 rfl he (c := 3) (by omega) (by rw [Int32.ofNat_add]; rfl) (by omega) h2 h4 (by assumption) ?_
  refine AT.ist5 M_209 rfl rfl ?_
  refine AT.aload_n M_209 rfl rfl ?_
  refine AT.r10_19 M_209 rfl h2 h4 ?_
  refine AT.iload_n M_209 rfl rfl ?_
  refine AT.rr_log M_209 rfl rfl h2 h4 (by assumption) ?_
  refine AT.iload_n M_209 rfl rfl ?_
  refine AT.iconst M_209 rfl (v := 4) (by decide) ?_
  refine AT.iadd M_209 rfl rfl ?_
  refine AT.ra_ent M_209 rfl he (c := 4) (by omega) (by rw [Int32.ofNat_add]; rfl) (by omega) h2 h4 (by assumption) ?_
  rw [hk]
  refine AT.ist6 M_209 rfl rfl ?_
  refine AT.aload_n M_209 rfl rfl ?_
  refine AT.r10_19 M_209 rfl h2 h4 ?_
  refine AT.iload_n M_209 rfl rfl ?_
  refine AT.rr_log M_209 rfl rfl h2 h4 (by assumption) ?_
  refine AT.iload_n M_209 rfl rfl ?_
  refine AT.iconst M_209 rfl (v := 5) (by decide) ?_
  refine AT.iadd M_209 rfl rfl ?_
  refine AT.ra_ent M_209 rfl he (c := 5) (by omega) (by rw [Int32.ofNat_add]; rfl) (by omega) h2 h4 (by assumption) ?_
  refine AT.ist7 M_209 rfl rfl ?_
  refine AT.aload_n M_209 rfl rfl ?_
  refine AT.r10_17 M_209 rfl h2 h4 ?_
  refine AT.iload_n M_209 rfl rfl ?_
  refine AT.rr_tab M_209 rfl rfl h2 h4 (by assumption) ?_
  refine AT.ast8 M_209 rfl rfl ?_
  refine AT.iload M_209 rfl rfl ?_
  refine AT.aload M_209 rfl rfl ?_
  refine AT.bipush M_209 rfl (v := 8) (by decide) ?_
  refine AT.iload M_209 rfl rfl ?_
  refine AT.iadd M_209 rfl rfl ?_
  refine AT.ra_tab M_209 rfl (j := 8 + c) (Int32.ofNat_add 8 c).symm h2 h4 (by assumption) (by omega) ?_
  refine AT.icmp_le M_209 rfl (fun b47 => ?_) (fun b47 => ?_)
  · refine AT.aload_n M_209 rfl rfl ?_
    refine AT.r10_5 M_209 rfl h2 h4 ?_
    refine AT.iload_n M_209 rfl rfl ?_
    refine AT.ra_12 M_209 rfl rfl h2 h4 (by assumption) ?_
    try simp only [xK_same]
    refine AT.iconst M_209 rfl (v := 3) (by decide) ?_
    refine AT.icmp_ne M_209 rfl (fun b125 => ?_) (fun b125 => ?_)
    · refine AT.vret M_209 rfl rfl ?_
      have hK : kApply (xK X o) s c ky e = xK X o := if_pos b47
      rw [show kAns2 (kApply (xK X o) s c ky e) s c e = kApply (xK X o) s c ky e from if_neg (fun z => by rw [hK] at z; exact b125 z.1), hK]
      rw [xSetK_self]
      exact ⟨rfl, rfl⟩
    · refine AT.iload M_209 rfl rfl ?_
      refine AT.aload_n M_209 rfl rfl ?_
      refine AT.r10_25 M_209 rfl h2 h4 ?_
      refine AT.iload M_209 rfl rfl ?_
      refine AT.bipush M_209 rfl (v := 7) (by decide) ?_
      refine AT.imul M_209 rfl rfl ?_
      refine AT.iconst M_209 rfl (v := 3) (by decide) ?_
      refine AT.iadd M_209 rfl rfl ?_
      refine AT.ra_req M_209 rfl (c := c) (j := 3) hc4 (by omega) (by rw [Int32.ofNat_add, Nat.mul_comm, Int32.ofNat_mul]; rfl) h2 h4 ?_
      try simp only [xK_same]
      refine AT.icmp_eq M_209 rfl (fun b135 => ?_) (fun b135 => ?_)
      · refine AT.aload_n M_209 rfl rfl ?_
        refine AT.r10_26 M_209 rfl h2 h4 ?_
        refine AT.iload M_209 rfl rfl ?_
        refine AT.iconst M_209 rfl (v := 1) (by decide) ?_
        refine AT.rs_35 M_209 rfl (by first | exact Or.inl rfl | exact Or.inr rfl | assumption) rfl h2 h4 (by assumption) ?_
        try simp only [xK_same, xSetK_idem, xD_setK]
        refine AT.aload_n M_209 rfl rfl ?_
        refine AT.r10_27 M_209 rfl h2 h4 ?_
        refine AT.iload M_209 rfl rfl ?_
        refine AT.aload M_209 rfl rfl ?_
        refine AT.bipush M_209 rfl (v := 12) (by decide) ?_
        refine AT.iload M_209 rfl rfl ?_
        refine AT.iadd M_209 rfl rfl ?_
        refine AT.ra_tab M_209 rfl (j := 12 + c) (Int32.ofNat_add 12 c).symm h2 h4 (by assumption) (by omega) ?_
        refine AT.rs_36 M_209 rfl rfl h2 h4 (by assumption) ?_
        try simp only [xK_same, xSetK_idem, xD_setK]
        refine AT.vret M_209 rfl rfl ?_
        have hK : kApply (xK X o) s c ky e = xK X o := if_pos b47
        rw [show kAns2 (kApply (xK X o) s c ky e) s c e = kSet (kSet (kApply (xK X o) s c ky e) 35 c 0 1) 36 c 0 ((kApply (xK X o) s c ky e).1 19 s (12 + c)) from if_pos (by rw [hK]; exact ⟨Classical.not_not.mp b125, b135.symm⟩), hK]
        exact ⟨rfl, rfl⟩
      · refine AT.vret M_209 rfl rfl ?_
        have hK : kApply (xK X o) s c ky e = xK X o := if_pos b47
        rw [show kAns2 (kApply (xK X o) s c ky e) s c e = kApply (xK X o) s c ky e from if_neg (fun z => by rw [hK] at z; exact b135 z.2.symm), hK]
        rw [xSetK_self]
        exact ⟨rfl, rfl⟩
  · refine AT.aload M_209 rfl rfl ?_
    refine AT.bipush M_209 rfl (v := 8) (by decide) ?_
    refine AT.iload M_209 rfl rfl ?_
    refine AT.iadd M_209 rfl rfl ?_
    refine AT.iload M_209 rfl rfl ?_
    refine AT.rs_tab M_209 rfl (j := 8 + c) (Int32.ofNat_add 8 c).symm h2 h4 (by assumption) (by omega) ?_
    try simp only [xK_same, xSetK_idem, xD_setK]
    refine AT.aload M_209 rfl rfl ?_
    refine AT.iload M_209 rfl rfl ?_
    refine AT.ra_tab M_209 rfl (j := ky) rfl h2 h4 (by assumption) (by omega) ?_
    simp only [xK_same]
    refine AT.ist9 M_209 rfl rfl ?_
    refine AT.iload_n M_209 rfl rfl ?_
    refine AT.iconst M_209 rfl (v := 1) (by decide) ?_
    refine AT.icmp_ne M_209 rfl (fun b60 => ?_) (fun b60 => absurd (by decide) b60)
    refine AT.iload_n M_209 rfl rfl ?_
    refine AT.iconst M_209 rfl (v := 2) (by decide) ?_
    refine AT.icmp_ne M_209 rfl (fun b68 => absurd b68 (by decide)) (fun b68 => ?_)
    refine AT.aload M_209 rfl rfl ?_
    refine AT.iload M_209 rfl rfl ?_
    refine AT.iload M_209 rfl rfl ?_
    refine AT.iload M_209 rfl rfl ?_
    refine AT.iadd M_209 rfl rfl ?_
    refine AT.rs_tab M_209 rfl (j := ky) rfl h2 h4 (by assumption) (by omega) ?_
    try simp only [xK_same, xSetK_idem, xD_setK]
    refine AT.goto M_209 rfl ?_
    refine AT.aload M_209 rfl rfl ?_
    refine AT.bipush M_209 rfl (v := 12) (by decide) ?_
    refine AT.iload M_209 rfl rfl ?_
    refine AT.iadd M_209 rfl rfl ?_
    refine AT.iload_n M_209 rfl rfl ?_
    refine AT.iconst M_209 rfl (v := 1) (by decide) ?_
    refine AT.icmp_ne M_209 rfl (fun b96 => ?_) (fun b96 => absurd (by decide) b96)
    refine AT.iload_n M_209 rfl rfl ?_
    refine AT.iconst M_209 rfl (v := 2) (by decide) ?_
    refine AT.icmp_ne M_209 rfl (fun b101 => absurd b101 (by decide)) (fun b101 => ?_)
    refine AT.aload M_209 rfl rfl ?_
    refine AT.iload M_209 rfl rfl ?_
    refine AT.ra_tab M_209 rfl (j := ky) rfl h2 h4 (by assumption) (by omega) ?_
    refine AT.goto M_209 rfl ?_
    refine AT.rs_tab M_209 rfl (j := 12 + c) (Int32.ofNat_add 12 c).symm h2 h4 (by assumption) (by omega) ?_
    try simp only [xK_same, xSetK_idem, xD_setK]
    refine AT.aload_n M_209 rfl rfl ?_
    refine AT.r10_5 M_209 rfl h2 h4 ?_
    refine AT.iload_n M_209 rfl rfl ?_
    refine AT.ra_12 M_209 rfl rfl h2 h4 (by assumption) ?_
    try simp only [xK_same]
    refine AT.iconst M_209 rfl (v := 3) (by decide) ?_
    refine AT.icmp_ne M_209 rfl (fun b125 => ?_) (fun b125 => ?_)
    · refine AT.vret M_209 rfl rfl ?_
      have hK : kApply (xK X o) s c ky e = kSet (kSet (kSet (xK X o) 19 s (8 + c) (e 3)) 19 s ky ((kSet (xK X o) 19 s (8 + c) (e 3)).1 19 s ky + e 5)) 19 s (12 + c) ((kSet (kSet (xK X o) 19 s (8 + c) (e 3)) 19 s ky ((kSet (xK X o) 19 s (8 + c) (e 3)).1 19 s ky + e 5)).1 19 s ky) := (if_neg b47).trans ((if_neg (by rw [e1]; decide)).trans (if_pos e1))
      rw [show kAns2 (kApply (xK X o) s c ky e) s c e = kApply (xK X o) s c ky e from if_neg (fun z => by rw [hK] at z; exact b125 z.1), hK]
      exact ⟨rfl, rfl⟩
    · refine AT.iload M_209 rfl rfl ?_
      refine AT.aload_n M_209 rfl rfl ?_
      refine AT.r10_25 M_209 rfl h2 h4 ?_
      refine AT.iload M_209 rfl rfl ?_
      refine AT.bipush M_209 rfl (v := 7) (by decide) ?_
      refine AT.imul M_209 rfl rfl ?_
      refine AT.iconst M_209 rfl (v := 3) (by decide) ?_
      refine AT.iadd M_209 rfl rfl ?_
      refine AT.ra_req M_209 rfl (c := c) (j := 3) hc4 (by omega) (by rw [Int32.ofNat_add, Nat.mul_comm, Int32.ofNat_mul]; rfl) h2 h4 ?_
      try simp only [xK_same]
      refine AT.icmp_eq M_209 rfl (fun b135 => ?_) (fun b135 => ?_)
      · refine AT.aload_n M_209 rfl rfl ?_
        refine AT.r10_26 M_209 rfl h2 h4 ?_
        refine AT.iload M_209 rfl rfl ?_
        refine AT.iconst M_209 rfl (v := 1) (by decide) ?_
        refine AT.rs_35 M_209 rfl (by first | exact Or.inl rfl | exact Or.inr rfl | assumption) rfl h2 h4 (by assumption) ?_
        try simp only [xK_same, xSetK_idem, xD_setK]
        refine AT.aload_n M_209 rfl rfl ?_
        refine AT.r10_27 M_209 rfl h2 h4 ?_
        refine AT.iload M_209 rfl rfl ?_
        refine AT.aload M_209 rfl rfl ?_
        refine AT.bipush M_209 rfl (v := 12) (by decide) ?_
        refine AT.iload M_209 rfl rfl ?_
        refine AT.iadd M_209 rfl rfl ?_
        refine AT.ra_tab M_209 rfl (j := 12 + c) (Int32.ofNat_add 12 c).symm h2 h4 (by assumption) (by omega) ?_
        refine AT.rs_36 M_209 rfl rfl h2 h4 (by assumption) ?_
        try simp only [xK_same, xSetK_idem, xD_setK]
        refine AT.vret M_209 rfl rfl ?_
        have hK : kApply (xK X o) s c ky e = kSet (kSet (kSet (xK X o) 19 s (8 + c) (e 3)) 19 s ky ((kSet (xK X o) 19 s (8 + c) (e 3)).1 19 s ky + e 5)) 19 s (12 + c) ((kSet (kSet (xK X o) 19 s (8 + c) (e 3)) 19 s ky ((kSet (xK X o) 19 s (8 + c) (e 3)).1 19 s ky + e 5)).1 19 s ky) := (if_neg b47).trans ((if_neg (by rw [e1]; decide)).trans (if_pos e1))
        rw [show kAns2 (kApply (xK X o) s c ky e) s c e = kSet (kSet (kApply (xK X o) s c ky e) 35 c 0 1) 36 c 0 ((kApply (xK X o) s c ky e).1 19 s (12 + c)) from if_pos (by rw [hK]; exact ⟨Classical.not_not.mp b125, b135.symm⟩), hK]
        exact ⟨rfl, rfl⟩
      · refine AT.vret M_209 rfl rfl ?_
        have hK : kApply (xK X o) s c ky e = kSet (kSet (kSet (xK X o) 19 s (8 + c) (e 3)) 19 s ky ((kSet (xK X o) 19 s (8 + c) (e 3)).1 19 s ky + e 5)) 19 s (12 + c) ((kSet (kSet (xK X o) 19 s (8 + c) (e 3)) 19 s ky ((kSet (xK X o) 19 s (8 + c) (e 3)).1 19 s ky + e 5)).1 19 s ky) := (if_neg b47).trans ((if_neg (by rw [e1]; decide)).trans (if_pos e1))
        rw [show kAns2 (kApply (xK X o) s c ky e) s c e = kApply (xK X o) s c ky e from if_neg (fun z => by rw [hK] at z; exact b135 z.2.symm), hK]
        exact ⟨rfl, rfl⟩
theorem c_209_3 {X : XS} {o s : Nat} (h2 : 2 ≤ o) (h4 : o < 4) (hs : s < 7) {c ky j : Nat} {e : ENT} (he : ((xK X o).2.1 s)[j]? = some e) (hb : 7 * j + 7 < 2147483648) (hc : e 2 = Int32.ofNat c) (hk : e 4 = Int32.ofNat ky) (hc4 : c < 4) (hk8 : ky < 8) (e1 : e 1 = 3) : RT 209 [some (.ref (bB o)), some (.int (Int32.ofNat s)), some (.int (Int32.ofNat (7 * j))), some (.int 3), none, none, none, none, none, none] X none (xSetK X o (kAns2 (kApply (xK X o) s c ky e) s c e)) := by
  refine AT.aload_n M_209 rfl rfl ?_
  refine AT.r10_19 M_209 rfl h2 h4 ?_
  refine AT.iload_n M_209 rfl rfl ?_
  refine AT.rr_log M_209 rfl rfl h2 h4 (by assumption) ?_
  refine AT.iload_n M_209 rfl rfl ?_
  refine AT.iconst M_209 rfl (v := 2) (by decide) ?_
  refine AT.iadd M_209 rfl rfl ?_
  refine AT.ra_ent M_209 rfl he (c := 2) (by omega) (by rw [Int32.ofNat_add]; rfl) (by omega) h2 h4 (by assumption) ?_
  rw [hc]
  refine AT.ist4 M_209 rfl rfl ?_
  refine AT.aload_n M_209 rfl rfl ?_
  refine AT.r10_19 M_209 rfl h2 h4 ?_
  refine AT.iload_n M_209 rfl rfl ?_
  refine AT.rr_log M_209 rfl rfl h2 h4 (by assumption) ?_
  refine AT.iload_n M_209 rfl rfl ?_
  refine AT.iconst M_209 rfl (v := 3) (by decide) ?_
  refine AT.iadd M_209 rfl rfl ?_
  refine AT.ra_ent M_209 rfl he (c := 3) (by omega) (by rw [Int32.ofNat_add]; rfl) (by omega) h2 h4 (by assumption) ?_
  refine AT.ist5 M_209 rfl rfl ?_
  refine AT.aload_n M_209 rfl rfl ?_
  refine AT.r10_19 M_209 rfl h2 h4 ?_
  refine AT.iload_n M_209 rfl rfl ?_
  refine AT.rr_log M_209 rfl rfl h2 h4 (by assumption) ?_
  refine AT.iload_n M_209 rfl rfl ?_
  refine AT.iconst M_209 rfl (v := 4) (by decide) ?_
  refine AT.iadd M_209 rfl rfl ?_
  refine AT.ra_ent M_209 rfl he (c := 4) (by omega) (by rw [Int32.ofNat_add]; rfl) (by omega) h2 h4 (by assumption) ?_
  rw [hk]
  refine AT.ist6 M_209 rfl rfl ?_
  refine AT.aload_n M_209 rfl rfl ?_
  refine AT.r10_19 M_209 rfl h2 h4 ?_
  refine AT.iload_n M_209 rfl rfl ?_
  refine AT.rr_log M_209 rfl rfl h2 h4 (by assumption) ?_
  refine AT.iload_n M_209 rfl rfl ?_
  refine AT.iconst M_209 rfl (v := 5) (by decide) ?_
  refine AT.iadd M_209 rfl rfl ?_
  refine AT.ra_ent M_209 rfl he (c := 5) (by omega) (by rw [Int32.ofNat_add]; rfl) (by omega) h2 h4 (by assumption) ?_
  refine AT.ist7 M_209 rfl rfl ?_
  refine AT.aload_n M_209 rfl rfl ?_
  refine AT.r10_17 M_209 rfl h2 h4 ?_
  refine AT.iload_n M_209 rfl rfl ?_
  refine AT.rr_tab M_209 rfl rfl h2 h4 (by assumption) ?_
  refine AT.ast8 M_209 rfl rfl ?_
  refine AT.iload M_209 rfl rfl ?_
  refine AT.aload M_209 rfl rfl ?_
  refine AT.bipush M_209 rfl (v := 8) (by decide) ?_
  refine AT.iload M_209 rfl rfl ?_
  refine AT.iadd M_209 rfl rfl ?_
  refine AT.ra_tab M_209 rfl (j := 8 + c) (Int32.ofNat_add 8 c).symm h2 h4 (by assumption) (by omega) ?_
  refine AT.icmp_le M_209 rfl (fun b47 => ?_) (fun b47 => ?_)
  · refine AT.aload_n M_209 rfl rfl ?_
    refine AT.r10_5 M_209 rfl h2 h4 ?_
    refine AT.iload_n M_209 rfl rfl ?_
    refine AT.ra_12 M_209 rfl rfl h2 h4 (by assumption) ?_
    try simp only [xK_same]
    refine AT.iconst M_209 rfl (v := 3) (by decide) ?_
    refine AT.icmp_ne M_209 rfl (fun b125 => ?_) (fun b125 => ?_)
    · refine AT.vret M_209 rfl rfl ?_
      have hK : kApply (xK X o) s c ky e = xK X o := if_pos b47
      rw [show kAns2 (kApply (xK X o) s c ky e) s c e = kApply (xK X o) s c ky e from if_neg (fun z => by rw [hK] at z; exact b125 z.1), hK]
      rw [xSetK_self]
      exact ⟨rfl, rfl⟩
    · refine AT.iload M_209 rfl rfl ?_
      refine AT.aload_n M_209 rfl rfl ?_
      refine AT.r10_25 M_209 rfl h2 h4 ?_
      refine AT.iload M_209 rfl rfl ?_
      refine AT.bipush M_209 rfl (v := 7) (by decide) ?_
      refine AT.imul M_209 rfl rfl ?_
      refine AT.iconst M_209 rfl (v := 3) (by decide) ?_
      refine AT.iadd M_209 rfl rfl ?_
      refine AT.ra_req M_209 rfl (c := c) (j := 3) hc4 (by omega) (by rw [Int32.ofNat_add, Nat.mul_comm, Int32.ofNat_mul]; rfl) h2 h4 ?_
      try simp only [xK_same]
      refine AT.icmp_eq M_209 rfl (fun b135 => ?_) (fun b135 => ?_)
      · refine AT.aload_n M_209 rfl rfl ?_
        refine AT.r10_26 M_209 rfl h2 h4 ?_
        refine AT.iload M_209 rfl rfl ?_
        refine AT.iconst M_209 rfl (v := 1) (by decide) ?_
        refine AT.rs_35 M_209 rfl (by first | exact Or.inl rfl | exact Or.inr rfl | assumption) rfl h2 h4 (by assumption) ?_
        try simp only [xK_same, xSetK_idem, xD_setK]
        refine AT.aload_n M_209 rfl rfl ?_
        refine AT.r10_27 M_209 rfl h2 h4 ?_
        refine AT.iload M_209 rfl rfl ?_
        refine AT.aload M_209 rfl rfl ?_
        refine AT.bipush M_209 rfl (v := 12) (by decide) ?_
        refine AT.iload M_209 rfl rfl ?_
        refine AT.iadd M_209 rfl rfl ?_
        refine AT.ra_tab M_209 rfl (j := 12 + c) (Int32.ofNat_add 12 c).symm h2 h4 (by assumption) (by omega) ?_
        refine AT.rs_36 M_209 rfl rfl h2 h4 (by assumption) ?_
        try simp only [xK_same, xSetK_idem, xD_setK]
        refine AT.vret M_209 rfl rfl ?_
        have hK : kApply (xK X o) s c ky e = xK X o := if_pos b47
        rw [show kAns2 (kApply (xK X o) s c ky e) s c e = kSet (kSet (kApply (xK X o) s c ky e) 35 c 0 1) 36 c 0 ((kApply (xK X o) s c ky e).1 19 s (12 + c)) from if_pos (by rw [hK]; exact ⟨Classical.not_not.mp b125, b135.symm⟩), hK]
        exact ⟨rfl, rfl⟩
      · refine AT.vret M_209 rfl rfl ?_
        have hK : kApply (xK X o) s c ky e = xK X o := if_pos b47
        rw [show kAns2 (kApply (xK X o) s c ky e) s c e = kApply (xK X o) s c ky e from if_neg (fun z => by rw [hK] at z; exact b135 z.2.symm), hK]
        rw [xSetK_self]
        exact ⟨rfl, rfl⟩
  · refine AT.aload M_209 rfl rfl ?_
    refine AT.bipush M_209 rfl (v := 8) (by decide) ?_
    refine AT.iload M_209 rfl rfl ?_
    refine AT.iadd M_209 rfl rfl ?_
    refine AT.iload M_209 rfl rfl ?_
    refine AT.rs_tab M_209 rfl (j := 8 + c) (Int32.ofNat_add 8 c).symm h2 h4 (by assumption) (by omega) ?_
    try simp only [xK_same, xSetK_idem, xD_setK]
    refine AT.aload M_209 rfl rfl ?_
    refine AT.iload M_209 rfl rfl ?_
    refine AT.ra_tab M_209 rfl (j := ky) rfl h2 h4 (by assumption) (by omega) ?_
    simp only [xK_same]
    refine AT.ist9 M_209 rfl rfl ?_
    refine AT.iload_n M_209 rfl rfl ?_
    refine AT.iconst M_209 rfl (v := 1) (by decide) ?_
    refine AT.icmp_ne M_209 rfl (fun b60 => ?_) (fun b60 => absurd (by decide) b60)
    refine AT.iload_n M_209 rfl rfl ?_
    refine AT.iconst M_209 rfl (v := 2) (by decide) ?_
    refine AT.icmp_ne M_209 rfl (fun b68 => ?_) (fun b68 => absurd (by decide) b68)
    refine AT.iload M_209 rfl rfl ?_
    refine AT.aload_n M_209 rfl rfl ?_
    refine AT.r10_19 M_209 rfl h2 h4 ?_
    refine AT.iload_n M_209 rfl rfl ?_
    refine AT.rr_log M_209 rfl rfl h2 h4 (by assumption) ?_
    refine AT.iload_n M_209 rfl rfl ?_
    refine AT.bipush M_209 rfl (v := 6) (by decide) ?_
    refine AT.iadd M_209 rfl rfl ?_
    refine AT.ra_ent M_209 rfl (by rw [xK_same]; exact he) (c := 6) (by omega) (by rw [Int32.ofNat_add]; rfl) (by omega) h2 h4 (by assumption) ?_
    refine AT.icmp_ne M_209 rfl (fun b85 => ?_) (fun b85 => ?_)
    · refine AT.aload M_209 rfl rfl ?_
      refine AT.bipush M_209 rfl (v := 12) (by decide) ?_
      refine AT.iload M_209 rfl rfl ?_
      refine AT.iadd M_209 rfl rfl ?_
      refine AT.iload_n M_209 rfl rfl ?_
      refine AT.iconst M_209 rfl (v := 1) (by decide) ?_
      refine AT.icmp_ne M_209 rfl (fun b96 => ?_) (fun b96 => absurd (by decide) b96)
      refine AT.iload_n M_209 rfl rfl ?_
      refine AT.iconst M_209 rfl (v := 2) (by decide) ?_
      refine AT.icmp_ne M_209 rfl (fun b101 => ?_) (fun b101 => absurd (by decide) b101)
      refine AT.iload M_209 rfl rfl ?_
      refine AT.aload_n M_209 rfl rfl ?_
      refine AT.r10_19 M_209 rfl h2 h4 ?_
      refine AT.iload_n M_209 rfl rfl ?_
      refine AT.rr_log M_209 rfl rfl h2 h4 (by assumption) ?_
      refine AT.iload_n M_209 rfl rfl ?_
      refine AT.bipush M_209 rfl (v := 6) (by decide) ?_
      refine AT.iadd M_209 rfl rfl ?_
      refine AT.ra_ent M_209 rfl (by rw [xK_same]; exact he) (c := 6) (by omega) (by rw [Int32.ofNat_add]; rfl) (by omega) h2 h4 (by assumption) ?_
      refine AT.icmp_ne M_209 rfl (fun b115 => ?_) (fun b115 => absurd b85 b115)
      refine AT.iconst M_209 rfl (v := 0) (by decide) ?_
      refine AT.rs_tab M_209 rfl (j := 12 + c) (Int32.ofNat_add 12 c).symm h2 h4 (by assumption) (by omega) ?_
      try simp only [xK_same, xSetK_idem, xD_setK]
      refine AT.aload_n M_209 rfl rfl ?_
      refine AT.r10_5 M_209 rfl h2 h4 ?_
      refine AT.iload_n M_209 rfl rfl ?_
      refine AT.ra_12 M_209 rfl rfl h2 h4 (by assumption) ?_
      try simp only [xK_same]
      refine AT.iconst M_209 rfl (v := 3) (by decide) ?_
      refine AT.icmp_ne M_209 rfl (fun b125 => ?_) (fun b125 => ?_)
      · refine AT.vret M_209 rfl rfl ?_
        have hK : kApply (xK X o) s c ky e = kSet (kSet (xK X o) 19 s (8 + c) (e 3)) 19 s (12 + c) 0 := (if_neg b47).trans ((if_neg (by rw [e1]; decide)).trans ((if_neg (by rw [e1]; decide)).trans ((if_neg b85).trans (congrArg (fun z => kSet z 19 s (12 + c) 0) (kSet_self _ _ _ _)))))
        rw [show kAns2 (kApply (xK X o) s c ky e) s c e = kApply (xK X o) s c ky e from if_neg (fun z => by rw [hK] at z; exact b125 z.1), hK]
        exact ⟨rfl, rfl⟩
      · refine AT.iload M_209 rfl rfl ?_
        refine AT.aload_n M_209 rfl rfl ?_
        refine AT.r10_25 M_209 rfl h2 h4 ?_
        refine AT.iload M_209 rfl rfl ?_
        refine AT.bipush M_209 rfl (v := 7) (by decide) ?_
        refine AT.imul M_209 rfl rfl ?_
        refine AT.iconst M_209 rfl (v := 3) (by decide) ?_
        refine AT.iadd M_209 rfl rfl ?_
        refine AT.ra_req M_209 rfl (c := c) (j := 3) hc4 (by omega) (by rw [Int32.ofNat_add, Nat.mul_comm, Int32.ofNat_mul]; rfl) h2 h4 ?_
        try simp only [xK_same]
        refine AT.icmp_eq M_209 rfl (fun b135 => ?_) (fun b135 => ?_)
        · refine AT.aload_n M_209 rfl rfl ?_
          refine AT.r10_26 M_209 rfl h2 h4 ?_
          refine AT.iload M_209 rfl rfl ?_
          refine AT.iconst M_209 rfl (v := 1) (by decide) ?_
          refine AT.rs_35 M_209 rfl (by first | exact Or.inl rfl | exact Or.inr rfl | assumption) rfl h2 h4 (by assumption) ?_
          try simp only [xK_same, xSetK_idem, xD_setK]
          refine AT.aload_n M_209 rfl rfl ?_
          refine AT.r10_27 M_209 rfl h2 h4 ?_
          refine AT.iload M_209 rfl rfl ?_
          refine AT.aload M_209 rfl rfl ?_
          refine AT.bipush M_209 rfl (v := 12) (by decide) ?_
          refine AT.iload M_209 rfl rfl ?_
          refine AT.iadd M_209 rfl rfl ?_
          refine AT.ra_tab M_209 rfl (j := 12 + c) (Int32.ofNat_add 12 c).symm h2 h4 (by assumption) (by omega) ?_
          refine AT.rs_36 M_209 rfl rfl h2 h4 (by assumption) ?_
          try simp only [xK_same, xSetK_idem, xD_setK]
          refine AT.vret M_209 rfl rfl ?_
          have hK : kApply (xK X o) s c ky e = kSet (kSet (xK X o) 19 s (8 + c) (e 3)) 19 s (12 + c) 0 := (if_neg b47).trans ((if_neg (by rw [e1]; decide)).trans ((if_neg (by rw [e1]; decide)).trans ((if_neg b85).trans (congrArg (fun z => kSet z 19 s (12 + c) 0) (kSet_self _ _ _ _)))))
          rw [show kAns2 (kApply (xK X o) s c ky e) s c e = kSet (kSet (kApply (xK X o) s c ky e) 35 c 0 1) 36 c 0 ((kApply (xK X o) s c ky e).1 19 s (12 + c)) from if_pos (by rw [hK]; exact ⟨Classical.not_not.mp b125, b135.symm⟩), hK]
          exact ⟨rfl, rfl⟩
        · refine AT.vret M_209 rfl rfl ?_
          have hK : kApply (xK X o) s c ky e = kSet (kSet (xK X o) 19 s (8 + c) (e 3)) 19 s (12 + c) 0 := (if_neg b47).trans ((if_neg (by rw [e1]; decide)).trans ((if_neg (by rw [e1]; decide)).trans ((if_neg b85).trans (congrArg (fun z => kSet z 19 s (12 + c) 0) (kSet_self _ _ _ _)))))
          rw [show kAns2 (kApply (xK X o) s c ky e) s c e = kApply (xK X o) s c ky e from if_neg (fun z => by rw [hK] at z; exact b135 z.2.symm), hK]
          exact ⟨rfl, rfl⟩
    · refine AT.aload M_209 rfl rfl ?_
      refine AT.iload M_209 rfl rfl ?_
      refine AT.iload M_209 rfl rfl ?_
      refine AT.rs_tab M_209 rfl (j := ky) rfl h2 h4 (by assumption) (by omega) ?_
      try simp only [xK_same, xSetK_idem, xD_setK]
      refine AT.aload M_209 rfl rfl ?_
      refine AT.bipush M_209 rfl (v := 12) (by decide) ?_
      refine AT.iload M_209 rfl rfl ?_
      refine AT.iadd M_209 rfl rfl ?_
      refine AT.iload_n M_209 rfl rfl ?_
      refine AT.iconst M_209 rfl (v := 1) (by decide) ?_
      refine AT.icmp_ne M_209 rfl (fun b96 => ?_) (fun b96 => absurd (by decide) b96)
      refine AT.iload_n M_209 rfl rfl ?_
      refine AT.iconst M_209 rfl (v := 2) (by decide) ?_
      refine AT.icmp_ne M_209 rfl (fun b101 => ?_) (fun b101 => absurd (by decide) b101)
      refine AT.iload M_209 rfl rfl ?_
      refine AT.aload_n M_209 rfl rfl ?_
      refine AT.r10_19 M_209 rfl h2 h4 ?_
      refine AT.iload_n M_209 rfl rfl ?_
      refine AT.rr_log M_209 rfl rfl h2 h4 (by assumption) ?_
      refine AT.iload_n M_209 rfl rfl ?_
      refine AT.bipush M_209 rfl (v := 6) (by decide) ?_
      refine AT.iadd M_209 rfl rfl ?_
      refine AT.ra_ent M_209 rfl (by rw [xK_same]; exact he) (c := 6) (by omega) (by rw [Int32.ofNat_add]; rfl) (by omega) h2 h4 (by assumption) ?_
      refine AT.icmp_ne M_209 rfl (fun b115 => absurd b115 b85) (fun b115 => ?_)
      refine AT.iconst M_209 rfl (v := 1) (by decide) ?_
      refine AT.goto M_209 rfl ?_
      refine AT.rs_tab M_209 rfl (j := 12 + c) (Int32.ofNat_add 12 c).symm h2 h4 (by assumption) (by omega) ?_
      try simp only [xK_same, xSetK_idem, xD_setK]
      refine AT.aload_n M_209 rfl rfl ?_
      refine AT.r10_5 M_209 rfl h2 h4 ?_
      refine AT.iload_n M_209 rfl rfl ?_
      refine AT.ra_12 M_209 rfl rfl h2 h4 (by assumption) ?_
      try simp only [xK_same]
      refine AT.iconst M_209 rfl (v := 3) (by decide) ?_
      refine AT.icmp_ne M_209 rfl (fun b125 => ?_) (fun b125 => ?_)
      · refine AT.vret M_209 rfl rfl ?_
        have hK : kApply (xK X o) s c ky e = kSet (kSet (kSet (xK X o) 19 s (8 + c) (e 3)) 19 s ky (e 5)) 19 s (12 + c) 1 := (if_neg b47).trans ((if_neg (by rw [e1]; decide)).trans ((if_neg (by rw [e1]; decide)).trans (if_pos (Classical.not_not.mp b85))))
        rw [show kAns2 (kApply (xK X o) s c ky e) s c e = kApply (xK X o) s c ky e from if_neg (fun z => by rw [hK] at z; exact b125 z.1), hK]
        exact ⟨rfl, rfl⟩
      · refine AT.iload M_209 rfl rfl ?_
        refine AT.aload_n M_209 rfl rfl ?_
        refine AT.r10_25 M_209 rfl h2 h4 ?_
        refine AT.iload M_209 rfl rfl ?_
        refine AT.bipush M_209 rfl (v := 7) (by decide) ?_
        refine AT.imul M_209 rfl rfl ?_
        refine AT.iconst M_209 rfl (v := 3) (by decide) ?_
        refine AT.iadd M_209 rfl rfl ?_
        refine AT.ra_req M_209 rfl (c := c) (j := 3) hc4 (by omega) (by rw [Int32.ofNat_add, Nat.mul_comm, Int32.ofNat_mul]; rfl) h2 h4 ?_
        try simp only [xK_same]
        refine AT.icmp_eq M_209 rfl (fun b135 => ?_) (fun b135 => ?_)
        · refine AT.aload_n M_209 rfl rfl ?_
          refine AT.r10_26 M_209 rfl h2 h4 ?_
          refine AT.iload M_209 rfl rfl ?_
          refine AT.iconst M_209 rfl (v := 1) (by decide) ?_
          refine AT.rs_35 M_209 rfl (by first | exact Or.inl rfl | exact Or.inr rfl | assumption) rfl h2 h4 (by assumption) ?_
          try simp only [xK_same, xSetK_idem, xD_setK]
          refine AT.aload_n M_209 rfl rfl ?_
          refine AT.r10_27 M_209 rfl h2 h4 ?_
          refine AT.iload M_209 rfl rfl ?_
          refine AT.aload M_209 rfl rfl ?_
          refine AT.bipush M_209 rfl (v := 12) (by decide) ?_
          refine AT.iload M_209 rfl rfl ?_
          refine AT.iadd M_209 rfl rfl ?_
          refine AT.ra_tab M_209 rfl (j := 12 + c) (Int32.ofNat_add 12 c).symm h2 h4 (by assumption) (by omega) ?_
          refine AT.rs_36 M_209 rfl rfl h2 h4 (by assumption) ?_
          try simp only [xK_same, xSetK_idem, xD_setK]
          refine AT.vret M_209 rfl rfl ?_
          have hK : kApply (xK X o) s c ky e = kSet (kSet (kSet (xK X o) 19 s (8 + c) (e 3)) 19 s ky (e 5)) 19 s (12 + c) 1 := (if_neg b47).trans ((if_neg (by rw [e1]; decide)).trans ((if_neg (by rw [e1]; decide)).trans (if_pos (Classical.not_not.mp b85))))
          rw [show kAns2 (kApply (xK X o) s c ky e) s c e = kSet (kSet (kApply (xK X o) s c ky e) 35 c 0 1) 36 c 0 ((kApply (xK X o) s c ky e).1 19 s (12 + c)) from if_pos (by rw [hK]; exact ⟨Classical.not_not.mp b125, b135.symm⟩), hK]
          exact ⟨rfl, rfl⟩
        · refine AT.vret M_209 rfl rfl ?_
          have hK : kApply (xK X o) s c ky e = kSet (kSet (kSet (xK X o) 19 s (8 + c) (e 3)) 19 s ky (e 5)) 19 s (12 + c) 1 := (if_neg b47).trans ((if_neg (by rw [e1]; decide)).trans ((if_neg (by rw [e1]; decide)).trans (if_pos (Classical.not_not.mp b85))))
          rw [show kAns2 (kApply (xK X o) s c ky e) s c e = kApply (xK X o) s c ky e from if_neg (fun z => by rw [hK] at z; exact b135 z.2.symm), hK]
          exact ⟨rfl, rfl⟩
theorem i32_13 {x : Int32} (h1 : 1 ≤ x) (h2 : x ≤ 3) : x = 1 ∨ x = 2 ∨ x = 3 := by
  rw [Int32.le_iff_toInt_le] at h1 h2
  have a1 : (1 : Int32).toInt = 1 := rfl
  have a3 : (3 : Int32).toInt = 3 := rfl
  rcases (by omega : x.toInt = 1 ∨ x.toInt = 2 ∨ x.toInt = 3) with h | h | h
  · exact Or.inl (Int32.toInt_inj.mp (by rw [h]; rfl))
  · exact Or.inr (Or.inl (Int32.toInt_inj.mp (by rw [h]; rfl)))
  · exact Or.inr (Or.inr (Int32.toInt_inj.mp (by rw [h]; rfl)))
theorem c_209 {X : XS} {o s : Nat} (h2 : 2 ≤ o) (h4 : o < 4) (hs : s < 7) {c ky j : Nat} {e : ENT} (he : ((xK X o).2.1 s)[j]? = some e) (hb : 7 * j + 7 < 2147483648) (hc : e 2 = Int32.ofNat c) (hk : e 4 = Int32.ofNat ky) (hc4 : c < 4) (hk8 : ky < 8) (e1 : 1 ≤ e 1 ∧ e 1 ≤ 3) : RT 209 [some (.ref (bB o)), some (.int (Int32.ofNat s)), some (.int (Int32.ofNat (7 * j))), some (.int (e 1)), none, none, none, none, none, none] X none (xSetK X o (kAns2 (kApply (xK X o) s c ky e) s c e)) := by
  rcases i32_13 e1.1 e1.2 with h | h | h
  · have := c_209_1 h2 h4 hs he hb hc hk hc4 hk8 h
    rw [← h] at this; exact this
  · have := c_209_2 h2 h4 hs he hb hc hk hc4 hk8 h
    rw [← h] at this; exact this
  · have := c_209_3 h2 h4 hs he hb hc hk hc4 hk8 h
    rw [← h] at this; exact this
/-- n entries behind index c, one by one -/
def kApF (s : Nat) : Nat → Nat → KK → KK
  | 0, _, K => K
  | n + 1, c, K => kApF s n (c + 1) (kAnsO K s (sEnt K s (Int32.ofNat (c + 1))))
theorem kAnsO_ent (K : KK) (s : Nat) (r : Option ENT) (i : Nat) (x : Int32) : sEnt (kAnsO K s r) i x = sEnt K i x := sEnt_congr (kAnsO_1 (by decide) (by omega)) (by rw [kAnsO_2]) x
theorem kApF_snoc (s : Nat) : ∀ (n c : Nat) (K : KK), kApF s (n + 1) c K = kAnsO (kApF s n c K) s (sEnt K s (Int32.ofNat (c + (n + 1))))
  | 0, c, K => rfl
  | n + 1, c, K => by
    show kApF s (n + 1) (c + 1) _ = kAnsO (kApF s n (c + 1) _) s _
    rw [kApF_snoc s n (c + 1), kAnsO_ent, show c + 1 + (n + 1) = c + (n + 1 + 1) by omega]
theorem kApF_eq (s : Nat) : ∀ (n c : Nat) (K : KK), kApF s n c K = kAppl K s c n
  | 0, c, K => rfl
  | n + 1, c, K => by rw [kApF_snoc, kApF_eq s n c K]; rfl
/-- what is applied of server s is x; else but rows of messages and logs the same -/
def rAp (o s : Nat) (x : Int32) (X Z : XS) : Prop := dV (xD Z) o 20 s 0 = x ∧ ∀ f i j, ¬ f = 41 → ¬ f = 42 → ¬ (f = 20 ∧ i = s ∧ j = 0) → dV (xD Z) o f i j = dV (xD X) o f i j
theorem l_208 {o s m a : Nat} (h2 : 2 ≤ o) (h4 : o < 4) (hs : s < 7) : ∀ (n c : Nat) (X : XS) (x2 x3 : Option Value), dV (xD X) o 20 s 0 = Int32.ofNat c → (xK X o).1 15 s 0 = Int32.ofNat (c + n) → (xK X o).1 18 s 0 = Int32.ofNat a → a ≤ c → c + n ≤ a + ((xK X o).2.1 s).length → a + ((xK X o).2.1 s).length < 16777216 → (∀ e, e ∈ (xK X o).2.1 s → eOk e) → AT 208 0 [some (.ref (bB o)), some (.int (Int32.ofNat s)), x2, x3] [] X (fun o' Z => o' = .inl none ∧ rRel0 o m 0 0 X Z (kApF s n c (xK X o)) ∧ rAp o s (Int32.ofNat (c + n)) X Z)
  | 0, c, X, x2, x3, h20, h15, ha, hac, hcn, hl, hE => by
    refine AT.aload_n M_208 rfl rfl ?_
    refine AT.r10_9 M_208 rfl h2 h4 ?_
    refine AT.iload_n M_208 rfl rfl ?_
    refine AT.ra_20 M_208 rfl rfl h2 h4 (by assumption) ?_
    refine AT.aload_n M_208 rfl rfl ?_
    refine AT.r10_8 M_208 rfl h2 h4 ?_
    refine AT.iload_n M_208 rfl rfl ?_
    refine AT.ra_15 M_208 rfl rfl h2 h4 (by assumption) ?_
    refine AT.icmp_ge M_208 rfl (fun b8 => ?_) (fun b8 => absurd (by rw [h20, h15, Nat.add_zero]; exact Int32.le_refl _) b8)
    refine AT.vret M_208 rfl rfl ?_
    exact ⟨rfl, rRel0.rf o m X, h20, fun _ _ _ _ _ _ => rfl⟩
  | n + 1, c, X, x2, x3, h20, h15, ha, hac, hcn, hl, hE => by
    have hs1 : sEnt (xK X o) s (Int32.ofNat (c + 1)) = some (((xK X o).2.1 s)[c - a]'(by omega)) := by
      rw [show c + 1 = a + 1 + (c - a) by omega, sEnt_at ha hl (by omega), List.getElem?_eq_getElem (by omega)]
    show AT 208 0 _ [] X (fun o' Z => o' = .inl none ∧ rRel0 o m 0 0 X Z (kApF s n (c + 1) (kAnsO (xK X o) s (sEnt (xK X o) s (Int32.ofNat (c + 1))))) ∧ rAp o s _ X Z)
    refine AT.aload_n M_208 rfl rfl ?_
    refine AT.r10_9 M_208 rfl h2 h4 ?_
    refine AT.iload_n M_208 rfl rfl ?_
    refine AT.ra_20 M_208 rfl rfl h2 h4 (by assumption) ?_
    refine AT.aload_n M_208 rfl rfl ?_
    refine AT.r10_8 M_208 rfl h2 h4 ?_
    refine AT.iload_n M_208 rfl rfl ?_
    refine AT.ra_15 M_208 rfl rfl h2 h4 (by assumption) ?_
    refine AT.icmp_ge M_208 rfl (fun b8 => absurd ((i32_le (a := c + (n + 1)) (b := c) (by omega) (by omega)).mp (by rw [← h15, ← h20]; exact b8)) (by omega)) (fun b8 => ?_)
    refine AT.aload_n M_208 rfl rfl ?_
    refine AT.r10_9 M_208 rfl h2 h4 ?_
    refine AT.iload_n M_208 rfl rfl ?_
    refine AT.dup2 M_208 rfl ?_
    refine AT.ra_20 M_208 rfl rfl h2 h4 (by assumption) ?_
    refine AT.iconst M_208 rfl (v := 1) (by decide) ?_
    refine AT.iadd M_208 rfl rfl ?_
    refine AT.rs_20 M_208 rfl rfl h2 h4 (by assumption) ?_
    try simp only [xK_same, xSetK_idem, xD_setK]
    refine AT.aload_n M_208 rfl rfl ?_
    refine AT.iload_n M_208 rfl rfl ?_
    refine AT.aload_n M_208 rfl rfl ?_
    refine AT.r10_9 M_208 rfl h2 h4 ?_
    refine AT.iload_n M_208 rfl rfl ?_
    refine AT.ra_20 M_208 rfl rfl h2 h4 (by assumption) ?_
    refine AT.cv3i M_208 rfl M_189 rfl (Nat.le_of_ble_eq_true rfl) (xKd.of (sh_st h2 h4)) (by decide) (c_189 h2 h4 hs) ?_ (Nat.le_of_ble_eq_true rfl) rfl
    try simp only [xK_same, xSetK_idem, xD_setK, xK_setD, xD_setD, xSetD_setK, xSetD_idem, kSet_1, kSet_2, kRow_1, kRow_2, kLog_1, kLog_2, kLog_l, kLog_idem, List.take_zero, if_true]
    have hd : dV (xD (xSetD X (dSetV (xD X) o 20 s 0 (dV (xD X) o 20 s 0 + 1)))) o 20 s 0 = Int32.ofNat (c + 1) := (if_pos ⟨rfl, rfl, rfl, rfl⟩).trans (by rw [h20]; exact i32_suc1 _)
    rw [show (dV (dSetV (xD X) o 20 s 0 (dV (xD X) o 20 s 0 + 1)) o 20 s 0 - (xK X o).1 18 s 0 - 1) * 7 = Int32.ofNat (7 * (c - a)) from by
      rw [show dV (dSetV (xD X) o 20 s 0 (dV (xD X) o 20 s 0 + 1)) o 20 s 0 = _ from hd, ha, show c + 1 = a + 1 + (c - a) by omega]
      have := i32_mul7 (a := a) (j := c - a) (c := 0)
      rw [show Int32.ofNat 0 = 0 from rfl, Int32.add_zero, Nat.add_zero] at this
      exact this]
    have he2 : ((xK (xSetD X (dSetV (xD X) o 20 s 0 (dV (xD X) o 20 s 0 + 1))) o).2.1 s)[c - a]? = some (((xK X o).2.1 s)[c - a]'(by omega)) := List.getElem?_eq_getElem (l := (xK X o).2.1 s) (i := c - a) (by omega)
    refine AT.ist2 M_208 rfl rfl ?_
    refine AT.aload_n M_208 rfl rfl ?_
    refine AT.r10_19 M_208 rfl h2 h4 ?_
    refine AT.iload_n M_208 rfl rfl ?_
    refine AT.rr_log M_208 rfl rfl h2 h4 (by assumption) ?_
    refine AT.iload_n M_208 rfl rfl ?_
    refine AT.iconst M_208 rfl (v := 1) (by decide) ?_
    refine AT.iadd M_208 rfl rfl ?_
    refine AT.ra_ent M_208 rfl he2 (c := 1) (by omega) (by rw [Int32.ofNat_add]; rfl) (by omega) h2 h4 (by assumption) ?_
    refine AT.ist3 M_208 rfl rfl ?_
    refine AT.iload_n M_208 rfl rfl ?_
    refine AT.iconst M_208 rfl (v := 1) (by decide) ?_
    refine AT.icmp_lt M_208 rfl (fun b36 => ?_) (fun b36 => ?_)
    · refine AT.goto M_208 rfl ?_
      have hK : kAnsO (xK X o) s (sEnt (xK X o) s (Int32.ofNat (c + 1))) = (xK X o) := by
        rw [hs1]
        exact (if_neg (fun z => absurd b36 (Int32.not_lt.mpr z.1)))
      have hY : xK (xSetD X (dSetV (xD X) o 20 s 0 (dV (xD X) o 20 s 0 + 1))) o = kAnsO (xK X o) s (sEnt (xK X o) s (Int32.ofNat (c + 1))) := by rw [hK]; rfl
      have r0 : rRel0 o m 0 0 X (xSetD X (dSetV (xD X) o 20 s 0 (dV (xD X) o 20 s 0 + 1))) (kAnsO (xK X o) s (sEnt (xK X o) s (Int32.ofNat (c + 1)))) := by rw [hK]; exact (rRel0.rf o m X).priv 20 s 0 _
      have h2' : (xK (xSetD X (dSetV (xD X) o 20 s 0 (dV (xD X) o 20 s 0 + 1))) o).2 = (xK X o).2 := by rw [hY]; exact kAnsO_2 _ _ _
      refine AT.mono (l_208 (m := m) h2 h4 hs n (c + 1) (xSetD X (dSetV (xD X) o 20 s 0 (dV (xD X) o 20 s 0 + 1))) _ _ hd (by rw [hY, kAnsO_1 (by decide) (by omega), h15]; congr 1; omega) (by rw [hY, kAnsO_1 (by decide) (by omega)]; exact ha) (by omega) (by rw [h2']; omega) (by rw [h2']; exact hl) (by rw [h2']; exact hE)) ?_
      rintro o' Z ⟨z1, z2, z3, z4⟩
      rw [hY] at z2
      refine ⟨z1, r0.tr z2, by rw [z3]; congr 1; omega, fun f i j q1 q2 q3 => (z4 f i j q1 q2 q3).trans (if_neg (fun z => q3 ⟨z.2.1, z.2.2.1, z.2.2.2⟩))⟩
    · refine AT.iload_n M_208 rfl rfl ?_
      refine AT.iconst M_208 rfl (v := 3) (by decide) ?_
      refine AT.icmp_gt M_208 rfl (fun b39 => ?_) (fun b39 => ?_)
      · refine AT.goto M_208 rfl ?_
        have hK : kAnsO (xK X o) s (sEnt (xK X o) s (Int32.ofNat (c + 1))) = (xK X o) := by
          rw [hs1]
          exact (if_neg (fun z => absurd b39 (Int32.not_lt.mpr z.2)))
        have hY : xK (xSetD X (dSetV (xD X) o 20 s 0 (dV (xD X) o 20 s 0 + 1))) o = kAnsO (xK X o) s (sEnt (xK X o) s (Int32.ofNat (c + 1))) := by rw [hK]; rfl
        have r0 : rRel0 o m 0 0 X (xSetD X (dSetV (xD X) o 20 s 0 (dV (xD X) o 20 s 0 + 1))) (kAnsO (xK X o) s (sEnt (xK X o) s (Int32.ofNat (c + 1)))) := by rw [hK]; exact (rRel0.rf o m X).priv 20 s 0 _
        have h2' : (xK (xSetD X (dSetV (xD X) o 20 s 0 (dV (xD X) o 20 s 0 + 1))) o).2 = (xK X o).2 := by rw [hY]; exact kAnsO_2 _ _ _
        refine AT.mono (l_208 (m := m) h2 h4 hs n (c + 1) (xSetD X (dSetV (xD X) o 20 s 0 (dV (xD X) o 20 s 0 + 1))) _ _ hd (by rw [hY, kAnsO_1 (by decide) (by omega), h15]; congr 1; omega) (by rw [hY, kAnsO_1 (by decide) (by omega)]; exact ha) (by omega) (by rw [h2']; omega) (by rw [h2']; exact hl) (by rw [h2']; exact hE)) ?_
        rintro o' Z ⟨z1, z2, z3, z4⟩
        rw [hY] at z2
        refine ⟨z1, r0.tr z2, by rw [z3]; congr 1; omega, fun f i j q1 q2 q3 => (z4 f i j q1 q2 q3).trans (if_neg (fun z => q3 ⟨z.2.1, z.2.2.1, z.2.2.2⟩))⟩
      · refine AT.aload_n M_208 rfl rfl ?_
        refine AT.iload_n M_208 rfl rfl ?_
        refine AT.iload_n M_208 rfl rfl ?_
        refine AT.iload_n M_208 rfl rfl ?_
        obtain ⟨⟨cc, hc4, hcc⟩, ky, hk8, hky⟩ := (hE _ (List.getElem_mem (by omega : c - a < ((xK X o).2.1 s).length))).2 ⟨Int32.not_lt.mp b36, Int32.not_lt.mp b39⟩
        refine AT.cv40 M_208 rfl M_209 rfl (Nat.le_of_ble_eq_true rfl) (xKd.of (sh_st h2 h4)) (by decide) (c_209 h2 h4 hs he2 (by omega) hcc hky hc4 hk8 ⟨Int32.not_lt.mp b36, Int32.not_lt.mp b39⟩) ?_ (Nat.le_of_ble_eq_true rfl) rfl
        try simp only [xK_same, xSetK_idem, xD_setK, xK_setD, xD_setD, xSetD_setK, xSetD_idem, kSet_1, kSet_2, kRow_1, kRow_2, kLog_1, kLog_2, kLog_l, kLog_idem, List.take_zero, if_true]
        refine AT.goto M_208 rfl ?_
        have hK : kAnsO (xK X o) s (sEnt (xK X o) s (Int32.ofNat (c + 1))) = (kAns2 (kApply (xK X o) s cc ky (((xK X o).2.1 s)[c - a]'(by omega))) s cc (((xK X o).2.1 s)[c - a]'(by omega))) := by
          rw [hs1]
          exact ((if_pos ⟨Int32.not_lt.mp b36, Int32.not_lt.mp b39⟩).trans (by rw [hcc, hky, (i32_ix (by omega)).1, (i32_ix (by omega)).1]))
        have hY : xK (xSetK (xSetD X (dSetV (xD X) o 20 s 0 (dV (xD X) o 20 s 0 + 1))) o (kAns2 (kApply (xK X o) s cc ky (((xK X o).2.1 s)[c - a]'(by omega))) s cc (((xK X o).2.1 s)[c - a]'(by omega)))) o = kAnsO (xK X o) s (sEnt (xK X o) s (Int32.ofNat (c + 1))) := by rw [hK]; exact xK_same _ _ _
        have r0 : rRel0 o m 0 0 X (xSetK (xSetD X (dSetV (xD X) o 20 s 0 (dV (xD X) o 20 s 0 + 1))) o (kAns2 (kApply (xK X o) s cc ky (((xK X o).2.1 s)[c - a]'(by omega))) s cc (((xK X o).2.1 s)[c - a]'(by omega)))) (kAnsO (xK X o) s (sEnt (xK X o) s (Int32.ofNat (c + 1)))) := by rw [hK]; exact ((rRel0.rf o m X).priv 20 s 0 _).net _
        have h2' : (xK (xSetK (xSetD X (dSetV (xD X) o 20 s 0 (dV (xD X) o 20 s 0 + 1))) o (kAns2 (kApply (xK X o) s cc ky (((xK X o).2.1 s)[c - a]'(by omega))) s cc (((xK X o).2.1 s)[c - a]'(by omega)))) o).2 = (xK X o).2 := by rw [hY]; exact kAnsO_2 _ _ _
        refine AT.mono (l_208 (m := m) h2 h4 hs n (c + 1) (xSetK (xSetD X (dSetV (xD X) o 20 s 0 (dV (xD X) o 20 s 0 + 1))) o (kAns2 (kApply (xK X o) s cc ky (((xK X o).2.1 s)[c - a]'(by omega))) s cc (((xK X o).2.1 s)[c - a]'(by omega)))) _ _ hd (by rw [hY, kAnsO_1 (by decide) (by omega), h15]; congr 1; omega) (by rw [hY, kAnsO_1 (by decide) (by omega)]; exact ha) (by omega) (by rw [h2']; omega) (by rw [h2']; exact hl) (by rw [h2']; exact hE)) ?_
        rintro o' Z ⟨z1, z2, z3, z4⟩
        rw [hY] at z2
        refine ⟨z1, r0.tr z2, by rw [z3]; congr 1; omega, fun f i j q1 q2 q3 => (z4 f i j q1 q2 q3).trans (if_neg (fun z => q3 ⟨z.2.1, z.2.2.1, z.2.2.2⟩))⟩
