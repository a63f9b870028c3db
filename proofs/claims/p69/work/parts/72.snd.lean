/-! ===== A SOUNDING IS ANSWERED ===== -/
def sSnd (K : KK) (s : Nat) (w : MSG) : Bool := decide (¬ w.1 4 ≤ K.1 5 s 0) && (sGood K s (w.1 7) (w.1 6) && (decide (¬ K.1 12 s 0 = 3) && (decide (K.1 13 s 0 = -1) || decide (¬ K.1 14 s 0 < 4))))
def xSnd (X : XS) (o s : Nat) : XS := xSend X o (mRep (uHand X o) 2 (if sSnd (xK X o) s (uHand X o) = true then (uHand X o).1 4 else (xK X o).1 5 s 0) (bI (sSnd (xK X o) s (uHand X o))) 0)
theorem c_32 {X : XS} {o s : Nat} (ho : o < 2) (hs : s < 7) : RT 32 [some (.ref (aB o)), some (.ref (aS o s)), some (.ref (aHand X o)), none, none] X none (xSnd X o s) := by
  have hw : xMs X (aHand X o) (uHand X o) := xMs.hand ho
  refine AT.aload_n M_32 rfl rfl ?_
  refine AT.f_6_13 M_32 rfl (by assumption) (by assumption) ?_
  refine AT.iconst M_32 rfl (v := (-1)) (by decide) ?_
  refine AT.icmp_eq M_32 rfl (fun b3 => ?_) (fun b3 => ?_)
  · refine AT.iconst M_32 rfl (v := 1) (by decide) ?_
    refine AT.goto M_32 rfl ?_
    refine AT.ist3 M_32 rfl rfl ?_
    refine AT.aload_n M_32 rfl rfl ?_
    refine AT.f_3_4 M_32 rfl hw ?_
    refine AT.aload_n M_32 rfl rfl ?_
    refine AT.f_6_5 M_32 rfl (by assumption) (by assumption) ?_
    refine AT.icmp_le M_32 rfl (fun b16 => ?_) (fun b16 => ?_)
    · refine AT.iconst M_32 rfl (v := 0) (by decide) ?_
      refine AT.ist4 M_32 rfl rfl ?_
      refine AT.aload_n M_32 rfl rfl ?_
      refine AT.iconst M_32 rfl (v := 2) (by decide) ?_
      refine AT.aload_n M_32 rfl rfl ?_
      refine AT.iload M_32 rfl rfl ?_
      refine AT.if_eq M_32 rfl (fun b38 => ?_) (fun b38 => ?_)
      · refine AT.aload_n M_32 rfl rfl ?_
        refine AT.f_6_5 M_32 rfl (by assumption) (by assumption) ?_
        refine AT.iload M_32 rfl rfl ?_
        refine AT.iconst M_32 rfl (v := 0) (by decide) ?_
        refine AT.cv60 M_32 rfl M_31 rfl (Nat.le_of_ble_eq_true rfl) (xKd.of (shp_cl (by assumption))) (by decide) (c_31 (w := uHand X o) ho hw (Or.inl rfl)) ?_ (Nat.le_of_ble_eq_true rfl) rfl
        refine AT.vret M_32 rfl rfl ?_
        have h0 := decide_eq_false (not_not_intro b16)
        have hg : sSnd (xK X o) s (uHand X o) = false := by
          unfold sSnd
          try rw [h0]
          try simp
        unfold xSnd
        rw [hg]
        rw [if_neg (by decide)]
        exact ⟨rfl, rfl⟩
      · exact absurd rfl b38
    · refine AT.aload_n M_32 rfl rfl ?_
      refine AT.aload_n M_32 rfl rfl ?_
      refine AT.f_3_7 M_32 rfl hw ?_
      refine AT.aload_n M_32 rfl rfl ?_
      refine AT.f_3_6 M_32 rfl hw ?_
      refine AT.cv3i M_32 rfl M_72 rfl (Nat.le_of_ble_eq_true rfl) (xKd.of (shp_sv (by assumption) (by assumption))) (by decide) (c_72 ho hs) ?_ (Nat.le_of_ble_eq_true rfl) rfl
      refine AT.if_eq M_32 rfl (fun b23 => ?_) (fun b23 => ?_)
      · refine AT.iconst M_32 rfl (v := 0) (by decide) ?_
        refine AT.ist4 M_32 rfl rfl ?_
        refine AT.aload_n M_32 rfl rfl ?_
        refine AT.iconst M_32 rfl (v := 2) (by decide) ?_
        refine AT.aload_n M_32 rfl rfl ?_
        refine AT.iload M_32 rfl rfl ?_
        refine AT.if_eq M_32 rfl (fun b38 => ?_) (fun b38 => ?_)
        · refine AT.aload_n M_32 rfl rfl ?_
          refine AT.f_6_5 M_32 rfl (by assumption) (by assumption) ?_
          refine AT.iload M_32 rfl rfl ?_
          refine AT.iconst M_32 rfl (v := 0) (by decide) ?_
          refine AT.cv60 M_32 rfl M_31 rfl (Nat.le_of_ble_eq_true rfl) (xKd.of (shp_cl (by assumption))) (by decide) (c_31 (w := uHand X o) ho hw (Or.inl rfl)) ?_ (Nat.le_of_ble_eq_true rfl) rfl
          refine AT.vret M_32 rfl rfl ?_
          have h0 := decide_eq_true b16
          have h1 := bI_eq0.mp b23
          have hg : sSnd (xK X o) s (uHand X o) = false := by
            unfold sSnd
            try rw [h0]
            try rw [h1]
            try simp
          unfold xSnd
          rw [hg]
          rw [if_neg (by decide)]
          exact ⟨rfl, rfl⟩
        · exact absurd rfl b38
      · refine AT.aload_n M_32 rfl rfl ?_
        refine AT.f_6_12 M_32 rfl (by assumption) (by assumption) ?_
        refine AT.iconst M_32 rfl (v := 3) (by decide) ?_
        refine AT.icmp_eq M_32 rfl (fun b27 => ?_) (fun b27 => ?_)
        · refine AT.iconst M_32 rfl (v := 0) (by decide) ?_
          refine AT.ist4 M_32 rfl rfl ?_
          refine AT.aload_n M_32 rfl rfl ?_
          refine AT.iconst M_32 rfl (v := 2) (by decide) ?_
          refine AT.aload_n M_32 rfl rfl ?_
          refine AT.iload M_32 rfl rfl ?_
          refine AT.if_eq M_32 rfl (fun b38 => ?_) (fun b38 => ?_)
          · refine AT.aload_n M_32 rfl rfl ?_
            refine AT.f_6_5 M_32 rfl (by assumption) (by assumption) ?_
            refine AT.iload M_32 rfl rfl ?_
            refine AT.iconst M_32 rfl (v := 0) (by decide) ?_
            refine AT.cv60 M_32 rfl M_31 rfl (Nat.le_of_ble_eq_true rfl) (xKd.of (shp_cl (by assumption))) (by decide) (c_31 (w := uHand X o) ho hw (Or.inl rfl)) ?_ (Nat.le_of_ble_eq_true rfl) rfl
            refine AT.vret M_32 rfl rfl ?_
            have h0 := decide_eq_true b16
            have h1 := bI_ne0.mp b23
            have h2 := decide_eq_false (not_not_intro b27)
            have hg : sSnd (xK X o) s (uHand X o) = false := by
              unfold sSnd
              try rw [h0]
              try rw [h1]
              try rw [h2]
              try simp
            unfold xSnd
            rw [hg]
            rw [if_neg (by decide)]
            exact ⟨rfl, rfl⟩
          · exact absurd rfl b38
        · refine AT.iload_n M_32 rfl rfl ?_
          refine AT.if_eq M_32 rfl (fun b29 => ?_) (fun b29 => ?_)
          · exact absurd b29 (by decide)
          · refine AT.iconst M_32 rfl (v := 1) (by decide) ?_
            refine AT.goto M_32 rfl ?_
            refine AT.ist4 M_32 rfl rfl ?_
            refine AT.aload_n M_32 rfl rfl ?_
            refine AT.iconst M_32 rfl (v := 2) (by decide) ?_
            refine AT.aload_n M_32 rfl rfl ?_
            refine AT.iload M_32 rfl rfl ?_
            refine AT.if_eq M_32 rfl (fun b38 => ?_) (fun b38 => ?_)
            · exact absurd b38 (by decide)
            · refine AT.aload_n M_32 rfl rfl ?_
              refine AT.f_3_4 M_32 rfl hw ?_
              refine AT.goto M_32 rfl ?_
              refine AT.iload M_32 rfl rfl ?_
              refine AT.iconst M_32 rfl (v := 0) (by decide) ?_
              refine AT.cv60 M_32 rfl M_31 rfl (Nat.le_of_ble_eq_true rfl) (xKd.of (shp_cl (by assumption))) (by decide) (c_31 (w := uHand X o) ho hw (Or.inr rfl)) ?_ (Nat.le_of_ble_eq_true rfl) rfl
              refine AT.vret M_32 rfl rfl ?_
              have h0 := decide_eq_true b16
              have h1 := bI_ne0.mp b23
              have h2 := decide_eq_true b27
              have h3 := decide_eq_true b3
              have hg : sSnd (xK X o) s (uHand X o) = true := by
                unfold sSnd
                try rw [h0]
                try rw [h1]
                try rw [h2]
                try rw [h3]
                try simp
              unfold xSnd
              rw [hg]
              rw [if_pos rfl]
              exact ⟨rfl, rfl⟩
  · refine AT.aload_n M_32 rfl rfl ?_
    refine AT.f_6_14 M_32 rfl (by assumption) (by assumption) ?_
    refine AT.iconst M_32 rfl (v := 4) (by decide) ?_
    refine AT.icmp_lt M_32 rfl (fun b7 => ?_) (fun b7 => ?_)
    · refine AT.iconst M_32 rfl (v := 0) (by decide) ?_
      refine AT.ist3 M_32 rfl rfl ?_
      refine AT.aload_n M_32 rfl rfl ?_
      refine AT.f_3_4 M_32 rfl hw ?_
      refine AT.aload_n M_32 rfl rfl ?_
      refine AT.f_6_5 M_32 rfl (by assumption) (by assumption) ?_
      refine AT.icmp_le M_32 rfl (fun b16 => ?_) (fun b16 => ?_)
      · refine AT.iconst M_32 rfl (v := 0) (by decide) ?_
        refine AT.ist4 M_32 rfl rfl ?_
        refine AT.aload_n M_32 rfl rfl ?_
        refine AT.iconst M_32 rfl (v := 2) (by decide) ?_
        refine AT.aload_n M_32 rfl rfl ?_
        refine AT.iload M_32 rfl rfl ?_
        refine AT.if_eq M_32 rfl (fun b38 => ?_) (fun b38 => ?_)
        · refine AT.aload_n M_32 rfl rfl ?_
          refine AT.f_6_5 M_32 rfl (by assumption) (by assumption) ?_
          refine AT.iload M_32 rfl rfl ?_
          refine AT.iconst M_32 rfl (v := 0) (by decide) ?_
          refine AT.cv60 M_32 rfl M_31 rfl (Nat.le_of_ble_eq_true rfl) (xKd.of (shp_cl (by assumption))) (by decide) (c_31 (w := uHand X o) ho hw (Or.inl rfl)) ?_ (Nat.le_of_ble_eq_true rfl) rfl
          refine AT.vret M_32 rfl rfl ?_
          have h0 := decide_eq_false (not_not_intro b16)
          have hg : sSnd (xK X o) s (uHand X o) = false := by
            unfold sSnd
            try rw [h0]
            try simp
          unfold xSnd
          rw [hg]
          rw [if_neg (by decide)]
          exact ⟨rfl, rfl⟩
        · exact absurd rfl b38
      · refine AT.aload_n M_32 rfl rfl ?_
        refine AT.aload_n M_32 rfl rfl ?_
        refine AT.f_3_7 M_32 rfl hw ?_
        refine AT.aload_n M_32 rfl rfl ?_
        refine AT.f_3_6 M_32 rfl hw ?_
        refine AT.cv3i M_32 rfl M_72 rfl (Nat.le_of_ble_eq_true rfl) (xKd.of (shp_sv (by assumption) (by assumption))) (by decide) (c_72 ho hs) ?_ (Nat.le_of_ble_eq_true rfl) rfl
        refine AT.if_eq M_32 rfl (fun b23 => ?_) (fun b23 => ?_)
        · refine AT.iconst M_32 rfl (v := 0) (by decide) ?_
          refine AT.ist4 M_32 rfl rfl ?_
          refine AT.aload_n M_32 rfl rfl ?_
          refine AT.iconst M_32 rfl (v := 2) (by decide) ?_
          refine AT.aload_n M_32 rfl rfl ?_
          refine AT.iload M_32 rfl rfl ?_
          refine AT.if_eq M_32 rfl (fun b38 => ?_) (fun b38 => ?_)
          · refine AT.aload_n M_32 rfl rfl ?_
            refine AT.f_6_5 M_32 rfl (by assumption) (by assumption) ?_
            refine AT.iload M_32 rfl rfl ?_
            refine AT.iconst M_32 rfl (v := 0) (by decide) ?_
            refine AT.cv60 M_32 rfl M_31 rfl (Nat.le_of_ble_eq_true rfl) (xKd.of (shp_cl (by assumption))) (by decide) (c_31 (w := uHand X o) ho hw (Or.inl rfl)) ?_ (Nat.le_of_ble_eq_true rfl) rfl
            refine AT.vret M_32 rfl rfl ?_
            have h0 := decide_eq_true b16
            have h1 := bI_eq0.mp b23
            have hg : sSnd (xK X o) s (uHand X o) = false := by
              unfold sSnd
              try rw [h0]
              try rw [h1]
              try simp
            unfold xSnd
            rw [hg]
            rw [if_neg (by decide)]
            exact ⟨rfl, rfl⟩
          · exact absurd rfl b38
        · refine AT.aload_n M_32 rfl rfl ?_
          refine AT.f_6_12 M_32 rfl (by assumption) (by assumption) ?_
          refine AT.iconst M_32 rfl (v := 3) (by decide) ?_
          refine AT.icmp_eq M_32 rfl (fun b27 => ?_) (fun b27 => ?_)
          · refine AT.iconst M_32 rfl (v := 0) (by decide) ?_
            refine AT.ist4 M_32 rfl rfl ?_
            refine AT.aload_n M_32 rfl rfl ?_
            refine AT.iconst M_32 rfl (v := 2) (by decide) ?_
            refine AT.aload_n M_32 rfl rfl ?_
            refine AT.iload M_32 rfl rfl ?_
            refine AT.if_eq M_32 rfl (fun b38 => ?_) (fun b38 => ?_)
            · refine AT.aload_n M_32 rfl rfl ?_
              refine AT.f_6_5 M_32 rfl (by assumption) (by assumption) ?_
              refine AT.iload M_32 rfl rfl ?_
              refine AT.iconst M_32 rfl (v := 0) (by decide) ?_
              refine AT.cv60 M_32 rfl M_31 rfl (Nat.le_of_ble_eq_true rfl) (xKd.of (shp_cl (by assumption))) (by decide) (c_31 (w := uHand X o) ho hw (Or.inl rfl)) ?_ (Nat.le_of_ble_eq_true rfl) rfl
              refine AT.vret M_32 rfl rfl ?_
              have h0 := decide_eq_true b16
              have h1 := bI_ne0.mp b23
              have h2 := decide_eq_false (not_not_intro b27)
              have hg : sSnd (xK X o) s (uHand X o) = false := by
                unfold sSnd
                try rw [h0]
                try rw [h1]
                try rw [h2]
                try simp
              unfold xSnd
              rw [hg]
              rw [if_neg (by decide)]
              exact ⟨rfl, rfl⟩
            · exact absurd rfl b38
          · refine AT.iload_n M_32 rfl rfl ?_
            refine AT.if_eq M_32 rfl (fun b29 => ?_) (fun b29 => ?_)
            · refine AT.iconst M_32 rfl (v := 0) (by decide) ?_
              refine AT.ist4 M_32 rfl rfl ?_
              refine AT.aload_n M_32 rfl rfl ?_
              refine AT.iconst M_32 rfl (v := 2) (by decide) ?_
              refine AT.aload_n M_32 rfl rfl ?_
              refine AT.iload M_32 rfl rfl ?_
              refine AT.if_eq M_32 rfl (fun b38 => ?_) (fun b38 => ?_)
              · refine AT.aload_n M_32 rfl rfl ?_
                refine AT.f_6_5 M_32 rfl (by assumption) (by assumption) ?_
                refine AT.iload M_32 rfl rfl ?_
                refine AT.iconst M_32 rfl (v := 0) (by decide) ?_
                refine AT.cv60 M_32 rfl M_31 rfl (Nat.le_of_ble_eq_true rfl) (xKd.of (shp_cl (by assumption))) (by decide) (c_31 (w := uHand X o) ho hw (Or.inl rfl)) ?_ (Nat.le_of_ble_eq_true rfl) rfl
                refine AT.vret M_32 rfl rfl ?_
                have h0 := decide_eq_true b16
                have h1 := bI_ne0.mp b23
                have h2 := decide_eq_true b27
                have h3 := decide_eq_false b3
                have h4 := decide_eq_false (not_not_intro b7)
                have hg : sSnd (xK X o) s (uHand X o) = false := by
                  unfold sSnd
                  try rw [h0]
                  try rw [h1]
                  try rw [h2]
                  try rw [h3]
                  try rw [h4]
                  try simp
                unfold xSnd
                rw [hg]
                rw [if_neg (by decide)]
                exact ⟨rfl, rfl⟩
              · exact absurd rfl b38
            · exact absurd rfl b29
    · refine AT.iconst M_32 rfl (v := 1) (by decide) ?_
      refine AT.goto M_32 rfl ?_
      refine AT.ist3 M_32 rfl rfl ?_
      refine AT.aload_n M_32 rfl rfl ?_
      refine AT.f_3_4 M_32 rfl hw ?_
      refine AT.aload_n M_32 rfl rfl ?_
      refine AT.f_6_5 M_32 rfl (by assumption) (by assumption) ?_
      refine AT.icmp_le M_32 rfl (fun b16 => ?_) (fun b16 => ?_)
      · refine AT.iconst M_32 rfl (v := 0) (by decide) ?_
        refine AT.ist4 M_32 rfl rfl ?_
        refine AT.aload_n M_32 rfl rfl ?_
        refine AT.iconst M_32 rfl (v := 2) (by decide) ?_
        refine AT.aload_n M_32 rfl rfl ?_
        refine AT.iload M_32 rfl rfl ?_
        refine AT.if_eq M_32 rfl (fun b38 => ?_) (fun b38 => ?_)
        · refine AT.aload_n M_32 rfl rfl ?_
          refine AT.f_6_5 M_32 rfl (by assumption) (by assumption) ?_
          refine AT.iload M_32 rfl rfl ?_
          refine AT.iconst M_32 rfl (v := 0) (by decide) ?_
          refine AT.cv60 M_32 rfl M_31 rfl (Nat.le_of_ble_eq_true rfl) (xKd.of (shp_cl (by assumption))) (by decide) (c_31 (w := uHand X o) ho hw (Or.inl rfl)) ?_ (Nat.le_of_ble_eq_true rfl) rfl
          refine AT.vret M_32 rfl rfl ?_
          have h0 := decide_eq_false (not_not_intro b16)
          have hg : sSnd (xK X o) s (uHand X o) = false := by
            unfold sSnd
            try rw [h0]
            try simp
          unfold xSnd
          rw [hg]
          rw [if_neg (by decide)]
          exact ⟨rfl, rfl⟩
        · exact absurd rfl b38
      · refine AT.aload_n M_32 rfl rfl ?_
        refine AT.aload_n M_32 rfl rfl ?_
        refine AT.f_3_7 M_32 rfl hw ?_
        refine AT.aload_n M_32 rfl rfl ?_
        refine AT.f_3_6 M_32 rfl hw ?_
        refine AT.cv3i M_32 rfl M_72 rfl (Nat.le_of_ble_eq_true rfl) (xKd.of (shp_sv (by assumption) (by assumption))) (by decide) (c_72 ho hs) ?_ (Nat.le_of_ble_eq_true rfl) rfl
        refine AT.if_eq M_32 rfl (fun b23 => ?_) (fun b23 => ?_)
        · refine AT.iconst M_32 rfl (v := 0) (by decide) ?_
          refine AT.ist4 M_32 rfl rfl ?_
          refine AT.aload_n M_32 rfl rfl ?_
          refine AT.iconst M_32 rfl (v := 2) (by decide) ?_
          refine AT.aload_n M_32 rfl rfl ?_
          refine AT.iload M_32 rfl rfl ?_
          refine AT.if_eq M_32 rfl (fun b38 => ?_) (fun b38 => ?_)
          · refine AT.aload_n M_32 rfl rfl ?_
            refine AT.f_6_5 M_32 rfl (by assumption) (by assumption) ?_
            refine AT.iload M_32 rfl rfl ?_
            refine AT.iconst M_32 rfl (v := 0) (by decide) ?_
            refine AT.cv60 M_32 rfl M_31 rfl (Nat.le_of_ble_eq_true rfl) (xKd.of (shp_cl (by assumption))) (by decide) (c_31 (w := uHand X o) ho hw (Or.inl rfl)) ?_ (Nat.le_of_ble_eq_true rfl) rfl
            refine AT.vret M_32 rfl rfl ?_
            have h0 := decide_eq_true b16
            have h1 := bI_eq0.mp b23
            have hg : sSnd (xK X o) s (uHand X o) = false := by
              unfold sSnd
              try rw [h0]
              try rw [h1]
              try simp
            unfold xSnd
            rw [hg]
            rw [if_neg (by decide)]
            exact ⟨rfl, rfl⟩
          · exact absurd rfl b38
        · refine AT.aload_n M_32 rfl rfl ?_
          refine AT.f_6_12 M_32 rfl (by assumption) (by assumption) ?_
          refine AT.iconst M_32 rfl (v := 3) (by decide) ?_
          refine AT.icmp_eq M_32 rfl (fun b27 => ?_) (fun b27 => ?_)
          · refine AT.iconst M_32 rfl (v := 0) (by decide) ?_
            refine AT.ist4 M_32 rfl rfl ?_
            refine AT.aload_n M_32 rfl rfl ?_
            refine AT.iconst M_32 rfl (v := 2) (by decide) ?_
            refine AT.aload_n M_32 rfl rfl ?_
            refine AT.iload M_32 rfl rfl ?_
            refine AT.if_eq M_32 rfl (fun b38 => ?_) (fun b38 => ?_)
            · refine AT.aload_n M_32 rfl rfl ?_
              refine AT.f_6_5 M_32 rfl (by assumption) (by assumption) ?_
              refine AT.iload M_32 rfl rfl ?_
              refine AT.iconst M_32 rfl (v := 0) (by decide) ?_
              refine AT.cv60 M_32 rfl M_31 rfl (Nat.le_of_ble_eq_true rfl) (xKd.of (shp_cl (by assumption))) (by decide) (c_31 (w := uHand X o) ho hw (Or.inl rfl)) ?_ (Nat.le_of_ble_eq_true rfl) rfl
              refine AT.vret M_32 rfl rfl ?_
              have h0 := decide_eq_true b16
              have h1 := bI_ne0.mp b23
              have h2 := decide_eq_false (not_not_intro b27)
              have hg : sSnd (xK X o) s (uHand X o) = false := by
                unfold sSnd
                try rw [h0]
                try rw [h1]
                try rw [h2]
                try simp
              unfold xSnd
              rw [hg]
              rw [if_neg (by decide)]
              exact ⟨rfl, rfl⟩
            · exact absurd rfl b38
          · refine AT.iload_n M_32 rfl rfl ?_
            refine AT.if_eq M_32 rfl (fun b29 => ?_) (fun b29 => ?_)
            · exact absurd b29 (by decide)
            · refine AT.iconst M_32 rfl (v := 1) (by decide) ?_
              refine AT.goto M_32 rfl ?_
              refine AT.ist4 M_32 rfl rfl ?_
              refine AT.aload_n M_32 rfl rfl ?_
              refine AT.iconst M_32 rfl (v := 2) (by decide) ?_
              refine AT.aload_n M_32 rfl rfl ?_
              refine AT.iload M_32 rfl rfl ?_
              refine AT.if_eq M_32 rfl (fun b38 => ?_) (fun b38 => ?_)
              · exact absurd b38 (by decide)
              · refine AT.aload_n M_32 rfl rfl ?_
                refine AT.f_3_4 M_32 rfl hw ?_
                refine AT.goto M_32 rfl ?_
                refine AT.iload M_32 rfl rfl ?_
                refine AT.iconst M_32 rfl (v := 0) (by decide) ?_
                refine AT.cv60 M_32 rfl M_31 rfl (Nat.le_of_ble_eq_true rfl) (xKd.of (shp_cl (by assumption))) (by decide) (c_31 (w := uHand X o) ho hw (Or.inr rfl)) ?_ (Nat.le_of_ble_eq_true rfl) rfl
                refine AT.vret M_32 rfl rfl ?_
                have h0 := decide_eq_true b16
                have h1 := bI_ne0.mp b23
                have h2 := decide_eq_true b27
                have h3 := decide_eq_false b3
                have h4 := decide_eq_true b7
                have hg : sSnd (xK X o) s (uHand X o) = true := by
                  unfold sSnd
                  try rw [h0]
                  try rw [h1]
                  try rw [h2]
                  try rw [h3]
                  try rw [h4]
                  try simp
                unfold xSnd
                rw [hg]
                rw [if_pos rfl]
                exact ⟨rfl, rfl⟩
