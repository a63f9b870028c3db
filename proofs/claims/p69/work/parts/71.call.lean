/-! ===== A CALL IS ANSWERED ===== -/
def sGrant (K : KK) (s : Nat) (w : MSG) : Bool := (decide (K.1 6 s 0 = -1) || decide (K.1 6 s 0 = w.1 2)) && (decide (w.1 4 = K.1 5 s 0) && sGood K s (w.1 7) (w.1 6))
def kGrant (K : KK) (s : Nat) (w : MSG) : KK := if sGrant K s w = true then kSet (kSet K 6 s 0 (w.1 2)) 14 s 0 0 else K
/-- the message in hand -/
def uHand (X : XS) (o : Nat) : MSG := dH (xD X) o (dP (xD X) o 60)
abbrev aHand (X : XS) (o : Nat) : Nat := aM o (dP (xD X) o 60)
def xCall (X : XS) (o s : Nat) : XS := xSend (xSetK X o (kGrant (xK X o) s (uHand X o))) o (mRep (uHand X o) 4 ((kGrant (xK X o) s (uHand X o)).1 5 s 0) (bI (sGrant (xK X o) s (uHand X o))) 0)
theorem c_33 {X : XS} {o s : Nat} (ho : o < 2) (hs : s < 7) : RT 33 [some (.ref (aB o)), some (.ref (aS o s)), some (.ref (aHand X o)), none, none] X none (xCall X o s) := by
  have hw : xMs X (aHand X o) (uHand X o) := xMs.hand ho
  have hwK : ∀ K, xMs (xSetK X o K) (aHand X o) (uHand X o) := fun K => xMs.hand (X := xSetK X o K) ho
  refine AT.aload_n M_33 rfl rfl ?_
  refine AT.f_6_6 M_33 rfl (by assumption) (by assumption) ?_
  refine AT.iconst M_33 rfl (v := (-1)) (by decide) ?_
  refine AT.icmp_eq M_33 rfl (fun b3 => ?_) (fun b3 => ?_)
  · refine AT.iconst M_33 rfl (v := 1) (by decide) ?_
    refine AT.goto M_33 rfl ?_
    refine AT.ist3 M_33 rfl rfl ?_
    refine AT.aload_n M_33 rfl rfl ?_
    refine AT.f_3_4 M_33 rfl (by first | exact hw | exact hwK _) ?_
    refine AT.aload_n M_33 rfl rfl ?_
    refine AT.f_6_5 M_33 rfl (by assumption) (by assumption) ?_
    refine AT.icmp_ne M_33 rfl (fun b17 => ?_) (fun b17 => ?_)
    · refine AT.iconst M_33 rfl (v := 0) (by decide) ?_
      refine AT.ist4 M_33 rfl rfl ?_
      refine AT.iload M_33 rfl rfl ?_
      refine AT.if_eq M_33 rfl (fun b32 => ?_) (fun b32 => ?_)
      · refine AT.aload_n M_33 rfl rfl ?_
        refine AT.iconst M_33 rfl (v := 4) (by decide) ?_
        refine AT.aload_n M_33 rfl rfl ?_
        refine AT.aload_n M_33 rfl rfl ?_
        refine AT.f_6_5 M_33 rfl (by assumption) (by assumption) ?_
        refine AT.iload M_33 rfl rfl ?_
        refine AT.iconst M_33 rfl (v := 0) (by decide) ?_
        refine AT.cv60 M_33 rfl M_31 rfl (Nat.le_of_ble_eq_true rfl) (xKd.of (shp_cl (by assumption))) (by decide) (c_31 (w := uHand X o) ho (by first | exact hw | exact hwK _) (Or.inl rfl)) ?_ (Nat.le_of_ble_eq_true rfl) rfl
        refine AT.vret M_33 rfl rfl ?_
        have h0 := decide_eq_true b3
        have h1 := decide_eq_false b17
        have hg : sGrant (xK X o) s (uHand X o) = false := by
          unfold sGrant
          try rw [h0]
          try rw [h1]
          simp
        unfold xCall kGrant
        rw [hg]
        rw [if_neg (by decide), xSetK_self]
        exact ⟨rfl, rfl⟩
      · exact absurd rfl b32
    · refine AT.iload_n M_33 rfl rfl ?_
      refine AT.if_eq M_33 rfl (fun b19 => ?_) (fun b19 => ?_)
      · exact absurd b19 (by decide)
      · refine AT.aload_n M_33 rfl rfl ?_
        refine AT.aload_n M_33 rfl rfl ?_
        refine AT.f_3_7 M_33 rfl (by first | exact hw | exact hwK _) ?_
        refine AT.aload_n M_33 rfl rfl ?_
        refine AT.f_3_6 M_33 rfl (by first | exact hw | exact hwK _) ?_
        refine AT.cv3i M_33 rfl M_72 rfl (Nat.le_of_ble_eq_true rfl) (xKd.of (shp_sv (by assumption) (by assumption))) (by decide) (c_72 ho hs) ?_ (Nat.le_of_ble_eq_true rfl) rfl
        refine AT.if_eq M_33 rfl (fun b26 => ?_) (fun b26 => ?_)
        · refine AT.iconst M_33 rfl (v := 0) (by decide) ?_
          refine AT.ist4 M_33 rfl rfl ?_
          refine AT.iload M_33 rfl rfl ?_
          refine AT.if_eq M_33 rfl (fun b32 => ?_) (fun b32 => ?_)
          · refine AT.aload_n M_33 rfl rfl ?_
            refine AT.iconst M_33 rfl (v := 4) (by decide) ?_
            refine AT.aload_n M_33 rfl rfl ?_
            refine AT.aload_n M_33 rfl rfl ?_
            refine AT.f_6_5 M_33 rfl (by assumption) (by assumption) ?_
            refine AT.iload M_33 rfl rfl ?_
            refine AT.iconst M_33 rfl (v := 0) (by decide) ?_
            refine AT.cv60 M_33 rfl M_31 rfl (Nat.le_of_ble_eq_true rfl) (xKd.of (shp_cl (by assumption))) (by decide) (c_31 (w := uHand X o) ho (by first | exact hw | exact hwK _) (Or.inl rfl)) ?_ (Nat.le_of_ble_eq_true rfl) rfl
            refine AT.vret M_33 rfl rfl ?_
            have h0 := decide_eq_true b3
            have h1 := decide_eq_true (Classical.not_not.mp b17)
            have h2 := bI_eq0.mp b26
            have hg : sGrant (xK X o) s (uHand X o) = false := by
              unfold sGrant
              try rw [h0]
              try rw [h1]
              try rw [h2]
              simp
            unfold xCall kGrant
            rw [hg]
            rw [if_neg (by decide), xSetK_self]
            exact ⟨rfl, rfl⟩
          · exact absurd rfl b32
        · refine AT.iconst M_33 rfl (v := 1) (by decide) ?_
          refine AT.goto M_33 rfl ?_
          refine AT.ist4 M_33 rfl rfl ?_
          refine AT.iload M_33 rfl rfl ?_
          refine AT.if_eq M_33 rfl (fun b32 => ?_) (fun b32 => ?_)
          · exact absurd b32 (by decide)
          · refine AT.aload_n M_33 rfl rfl ?_
            refine AT.aload_n M_33 rfl rfl ?_
            refine AT.f_3_2 M_33 rfl (by first | exact hw | exact hwK _) ?_
            refine AT.p_6_6 M_33 rfl ho hs ?_
            try simp only [xK_same, xSetK_idem]
            refine AT.aload_n M_33 rfl rfl ?_
            refine AT.iconst M_33 rfl (v := 0) (by decide) ?_
            refine AT.p_6_14 M_33 rfl ho hs ?_
            try simp only [xK_same, xSetK_idem]
            refine AT.aload_n M_33 rfl rfl ?_
            refine AT.iconst M_33 rfl (v := 4) (by decide) ?_
            refine AT.aload_n M_33 rfl rfl ?_
            refine AT.aload_n M_33 rfl rfl ?_
            refine AT.f_6_5 M_33 rfl (by assumption) (by assumption) ?_
            refine AT.iload M_33 rfl rfl ?_
            refine AT.iconst M_33 rfl (v := 0) (by decide) ?_
            refine AT.cv60 M_33 rfl M_31 rfl (Nat.le_of_ble_eq_true rfl) (xKd.of (shp_cl (by assumption))) (by decide) (c_31 (w := uHand X o) ho (by first | exact hw | exact hwK _) (Or.inr rfl)) ?_ (Nat.le_of_ble_eq_true rfl) rfl
            refine AT.vret M_33 rfl rfl ?_
            have h0 := decide_eq_true b3
            have h1 := decide_eq_true (Classical.not_not.mp b17)
            have h2 := bI_ne0.mp b26
            have hg : sGrant (xK X o) s (uHand X o) = true := by
              unfold sGrant
              try rw [h0]
              try rw [h1]
              try rw [h2]
              simp
            unfold xCall kGrant
            rw [hg]
            rw [if_pos rfl, xK_same]
            exact ⟨rfl, rfl⟩
  · refine AT.aload_n M_33 rfl rfl ?_
    refine AT.f_6_6 M_33 rfl (by assumption) (by assumption) ?_
    refine AT.aload_n M_33 rfl rfl ?_
    refine AT.f_3_2 M_33 rfl (by first | exact hw | exact hwK _) ?_
    refine AT.icmp_ne M_33 rfl (fun b8 => ?_) (fun b8 => ?_)
    · refine AT.iconst M_33 rfl (v := 0) (by decide) ?_
      refine AT.ist3 M_33 rfl rfl ?_
      refine AT.aload_n M_33 rfl rfl ?_
      refine AT.f_3_4 M_33 rfl (by first | exact hw | exact hwK _) ?_
      refine AT.aload_n M_33 rfl rfl ?_
      refine AT.f_6_5 M_33 rfl (by assumption) (by assumption) ?_
      refine AT.icmp_ne M_33 rfl (fun b17 => ?_) (fun b17 => ?_)
      · refine AT.iconst M_33 rfl (v := 0) (by decide) ?_
        refine AT.ist4 M_33 rfl rfl ?_
        refine AT.iload M_33 rfl rfl ?_
        refine AT.if_eq M_33 rfl (fun b32 => ?_) (fun b32 => ?_)
        · refine AT.aload_n M_33 rfl rfl ?_
          refine AT.iconst M_33 rfl (v := 4) (by decide) ?_
          refine AT.aload_n M_33 rfl rfl ?_
          refine AT.aload_n M_33 rfl rfl ?_
          refine AT.f_6_5 M_33 rfl (by assumption) (by assumption) ?_
          refine AT.iload M_33 rfl rfl ?_
          refine AT.iconst M_33 rfl (v := 0) (by decide) ?_
          refine AT.cv60 M_33 rfl M_31 rfl (Nat.le_of_ble_eq_true rfl) (xKd.of (shp_cl (by assumption))) (by decide) (c_31 (w := uHand X o) ho (by first | exact hw | exact hwK _) (Or.inl rfl)) ?_ (Nat.le_of_ble_eq_true rfl) rfl
          refine AT.vret M_33 rfl rfl ?_
          have h0 := decide_eq_false b3
          have h1 := decide_eq_false b8
          have h2 := decide_eq_false b17
          have hg : sGrant (xK X o) s (uHand X o) = false := by
            unfold sGrant
            try rw [h0]
            try rw [h1]
            try rw [h2]
            simp
          unfold xCall kGrant
          rw [hg]
          rw [if_neg (by decide), xSetK_self]
          exact ⟨rfl, rfl⟩
        · exact absurd rfl b32
      · refine AT.iload_n M_33 rfl rfl ?_
        refine AT.if_eq M_33 rfl (fun b19 => ?_) (fun b19 => ?_)
        · refine AT.iconst M_33 rfl (v := 0) (by decide) ?_
          refine AT.ist4 M_33 rfl rfl ?_
          refine AT.iload M_33 rfl rfl ?_
          refine AT.if_eq M_33 rfl (fun b32 => ?_) (fun b32 => ?_)
          · refine AT.aload_n M_33 rfl rfl ?_
            refine AT.iconst M_33 rfl (v := 4) (by decide) ?_
            refine AT.aload_n M_33 rfl rfl ?_
            refine AT.aload_n M_33 rfl rfl ?_
            refine AT.f_6_5 M_33 rfl (by assumption) (by assumption) ?_
            refine AT.iload M_33 rfl rfl ?_
            refine AT.iconst M_33 rfl (v := 0) (by decide) ?_
            refine AT.cv60 M_33 rfl M_31 rfl (Nat.le_of_ble_eq_true rfl) (xKd.of (shp_cl (by assumption))) (by decide) (c_31 (w := uHand X o) ho (by first | exact hw | exact hwK _) (Or.inl rfl)) ?_ (Nat.le_of_ble_eq_true rfl) rfl
            refine AT.vret M_33 rfl rfl ?_
            have h0 := decide_eq_false b3
            have h1 := decide_eq_false b8
            have h2 := decide_eq_true (Classical.not_not.mp b17)
            have hg : sGrant (xK X o) s (uHand X o) = false := by
              unfold sGrant
              try rw [h0]
              try rw [h1]
              try rw [h2]
              simp
            unfold xCall kGrant
            rw [hg]
            rw [if_neg (by decide), xSetK_self]
            exact ⟨rfl, rfl⟩
          · exact absurd rfl b32
        · exact absurd rfl b19
    · refine AT.iconst M_33 rfl (v := 1) (by decide) ?_
      refine AT.goto M_33 rfl ?_
      refine AT.ist3 M_33 rfl rfl ?_
      refine AT.aload_n M_33 rfl rfl ?_
      refine AT.f_3_4 M_33 rfl (by first | exact hw | exact hwK _) ?_
      refine AT.aload_n M_33 rfl rfl ?_
      refine AT.f_6_5 M_33 rfl (by assumption) (by assumption) ?_
      refine AT.icmp_ne M_33 rfl (fun b17 => ?_) (fun b17 => ?_)
      · refine AT.iconst M_33 rfl (v := 0) (by decide) ?_
        refine AT.ist4 M_33 rfl rfl ?_
        refine AT.iload M_33 rfl rfl ?_
        refine AT.if_eq M_33 rfl (fun b32 => ?_) (fun b32 => ?_)
        · refine AT.aload_n M_33 rfl rfl ?_
          refine AT.iconst M_33 rfl (v := 4) (by decide) ?_
          refine AT.aload_n M_33 rfl rfl ?_
          refine AT.aload_n M_33 rfl rfl ?_
          refine AT.f_6_5 M_33 rfl (by assumption) (by assumption) ?_
          refine AT.iload M_33 rfl rfl ?_
          refine AT.iconst M_33 rfl (v := 0) (by decide) ?_
          refine AT.cv60 M_33 rfl M_31 rfl (Nat.le_of_ble_eq_true rfl) (xKd.of (shp_cl (by assumption))) (by decide) (c_31 (w := uHand X o) ho (by first | exact hw | exact hwK _) (Or.inl rfl)) ?_ (Nat.le_of_ble_eq_true rfl) rfl
          refine AT.vret M_33 rfl rfl ?_
          have h0 := decide_eq_false b3
          have h1 := decide_eq_true (Classical.not_not.mp b8)
          have h2 := decide_eq_false b17
          have hg : sGrant (xK X o) s (uHand X o) = false := by
            unfold sGrant
            try rw [h0]
            try rw [h1]
            try rw [h2]
            simp
          unfold xCall kGrant
          rw [hg]
          rw [if_neg (by decide), xSetK_self]
          exact ⟨rfl, rfl⟩
        · exact absurd rfl b32
      · refine AT.iload_n M_33 rfl rfl ?_
        refine AT.if_eq M_33 rfl (fun b19 => ?_) (fun b19 => ?_)
        · exact absurd b19 (by decide)
        · refine AT.aload_n M_33 rfl rfl ?_
          refine AT.aload_n M_33 rfl rfl ?_
          refine AT.f_3_7 M_33 rfl (by first | exact hw | exact hwK _) ?_
          refine AT.aload_n M_33 rfl rfl ?_
          refine AT.f_3_6 M_33 rfl (by first | exact hw | exact hwK _) ?_
          refine AT.cv3i M_33 rfl M_72 rfl (Nat.le_of_ble_eq_true rfl) (xKd.of (shp_sv (by assumption) (by assumption))) (by decide) (c_72 ho hs) ?_ (Nat.le_of_ble_eq_true rfl) rfl
          refine AT.if_eq M_33 rfl (fun b26 => ?_) (fun b26 => ?_)
          · refine AT.iconst M_33 rfl (v := 0) (by decide) ?_
            refine AT.ist4 M_33 rfl rfl ?_
            refine AT.iload M_33 rfl rfl ?_
            refine AT.if_eq M_33 rfl (fun b32 => ?_) (fun b32 => ?_)
            · refine AT.aload_n M_33 rfl rfl ?_
              refine AT.iconst M_33 rfl (v := 4) (by decide) ?_
              refine AT.aload_n M_33 rfl rfl ?_
              refine AT.aload_n M_33 rfl rfl ?_
              refine AT.f_6_5 M_33 rfl (by assumption) (by assumption) ?_
              refine AT.iload M_33 rfl rfl ?_
              refine AT.iconst M_33 rfl (v := 0) (by decide) ?_
              refine AT.cv60 M_33 rfl M_31 rfl (Nat.le_of_ble_eq_true rfl) (xKd.of (shp_cl (by assumption))) (by decide) (c_31 (w := uHand X o) ho (by first | exact hw | exact hwK _) (Or.inl rfl)) ?_ (Nat.le_of_ble_eq_true rfl) rfl
              refine AT.vret M_33 rfl rfl ?_
              have h0 := decide_eq_false b3
              have h1 := decide_eq_true (Classical.not_not.mp b8)
              have h2 := decide_eq_true (Classical.not_not.mp b17)
              have h3 := bI_eq0.mp b26
              have hg : sGrant (xK X o) s (uHand X o) = false := by
                unfold sGrant
                try rw [h0]
                try rw [h1]
                try rw [h2]
                try rw [h3]
                simp
              unfold xCall kGrant
              rw [hg]
              rw [if_neg (by decide), xSetK_self]
              exact ⟨rfl, rfl⟩
            · exact absurd rfl b32
          · refine AT.iconst M_33 rfl (v := 1) (by decide) ?_
            refine AT.goto M_33 rfl ?_
            refine AT.ist4 M_33 rfl rfl ?_
            refine AT.iload M_33 rfl rfl ?_
            refine AT.if_eq M_33 rfl (fun b32 => ?_) (fun b32 => ?_)
            · exact absurd b32 (by decide)
            · refine AT.aload_n M_33 rfl rfl ?_
              refine AT.aload_n M_33 rfl rfl ?_
              refine AT.f_3_2 M_33 rfl (by first | exact hw | exact hwK _) ?_
              refine AT.p_6_6 M_33 rfl ho hs ?_
              try simp only [xK_same, xSetK_idem]
              refine AT.aload_n M_33 rfl rfl ?_
              refine AT.iconst M_33 rfl (v := 0) (by decide) ?_
              refine AT.p_6_14 M_33 rfl ho hs ?_
              try simp only [xK_same, xSetK_idem]
              refine AT.aload_n M_33 rfl rfl ?_
              refine AT.iconst M_33 rfl (v := 4) (by decide) ?_
              refine AT.aload_n M_33 rfl rfl ?_
              refine AT.aload_n M_33 rfl rfl ?_
              refine AT.f_6_5 M_33 rfl (by assumption) (by assumption) ?_
              refine AT.iload M_33 rfl rfl ?_
              refine AT.iconst M_33 rfl (v := 0) (by decide) ?_
              refine AT.cv60 M_33 rfl M_31 rfl (Nat.le_of_ble_eq_true rfl) (xKd.of (shp_cl (by assumption))) (by decide) (c_31 (w := uHand X o) ho (by first | exact hw | exact hwK _) (Or.inr rfl)) ?_ (Nat.le_of_ble_eq_true rfl) rfl
              refine AT.vret M_33 rfl rfl ?_
              have h0 := decide_eq_false b3
              have h1 := decide_eq_true (Classical.not_not.mp b8)
              have h2 := decide_eq_true (Classical.not_not.mp b17)
              have h3 := bI_ne0.mp b26
              have hg : sGrant (xK X o) s (uHand X o) = true := by
                unfold sGrant
                try rw [h0]
                try rw [h1]
                try rw [h2]
                try rw [h3]
                simp
              unfold xCall kGrant
              rw [hg]
              rw [if_pos rfl, xK_same]
              exact ⟨rfl, rfl⟩
