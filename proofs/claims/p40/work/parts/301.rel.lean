/-! ===== class and model: the relation, piece by piece ===== -/
/-- the model's number of the message at (t, p, o) -/
abbrev mi (M : zS) (t p o : Int) : Int := M (59, 0, 0, 0) ((t * 4 + p) * 80 + o)
abbrev inT (P : zP) (t : Int) : Prop := 0 ≤ t ∧ t < P 0 0 0
abbrev inP (P : zP) (t p : Int) : Prop := 0 ≤ p ∧ p < P 1 t 0
abbrev inM (P : zP) (t p o : Int) : Prop := 0 ≤ o ∧ o < P 2 t p
abbrev inG (P : zP) (g : Int) : Prop := 0 ≤ g ∧ g < P 3 0 0
abbrev inQ (P : zP) (g p : Int) : Prop := 0 ≤ p ∧ p < P 1 (P 4 g 0) 0
/-- numbers of the whole -/
def rA (S M : zS) : Prop := M (40, 0, 0, 0) 1 = S (0, 0, 0, 0) 6 ∧ M (40, 0, 0, 0) 2 = S (0, 0, 0, 0) 7 ∧ M (40, 0, 0, 0) 3 = S (0, 0, 0, 0) 8 ∧ M (40, 0, 0, 0) 11 = S (0, 0, 0, 0) 5 ∧ M (40, 0, 0, 0) 20 = S (0, 0, 0, 0) 4
/-- the ledger -/
def rL (S M : zS) : Prop := M (40, 0, 0, 0) 32 = S (1, 0, 0, 0) 1 ∧ ∀ i, M (73, 0, 0, 0) i = S (2, 0, 0, 0) i
/-- topics and partitions -/
def rB (P : zP) (S M : zS) : Prop := ∀ t, inT P t → M (46, 0, 0, 0) t = S (8, t, 0, 0) 3 ∧ M (50, 0, 0, 0) t = S (8, t, 0, 0) 1 ∧ (∀ x, 0 ≤ x → x < 4 → M (49, 0, 0, 0) (t * 4 + x) = S (10, t, 0, 0) x) ∧ ∀ p, inP P t p → M (47, 0, 0, 0) (t * 4 + p) = S (11, t, p, 0) 1
/-- messages -/
def rC (P : zP) (S M : zS) : Prop := ∀ t p o, inT P t → inP P t p → inM P t p o → (0 ≤ mi M t p o ∧ mi M t p o < M (40, 0, 0, 0) 11) ∧ M (52, 0, 0, 0) (mi M t p o) = t * 4 + p ∧ M (53, 0, 0, 0) (mi M t p o) = o ∧ M (54, 0, 0, 0) (mi M t p o) = S (14, t, p, o) 0 ∧ M (55, 0, 0, 0) (mi M t p o) = S (14, t, p, o) 1 ∧ M (56, 0, 0, 0) (mi M t p o) = S (14, t, p, o) 2 ∧ mS M (mi M t p o) = S (14, t, p, o) 4 ∧ M (58, 0, 0, 0) (mi M t p o) = S (14, t, p, o) 5
/-- transactions of messages -/
def rT (P : zP) (S M : zS) : Prop := ∀ t p o, inT P t → inP P t p → inM P t p o → (S (14, t, p, o) 4 = 2 → (0 ≤ S (14, t, p, o) 3 ∧ S (14, t, p, o) 3 < 4) ∧ M (57, 0, 0, 0) (mi M t p o) = M (62, 0, 0, 0) (S (14, t, p, o) 3) ∧ ¬ M (62, 0, 0, 0) (S (14, t, p, o) 3) = -1) ∧ (∀ x, 0 ≤ x → x < 4 → ¬ M (62, 0, 0, 0) x = -1 → M (57, 0, 0, 0) (mi M t p o) = M (62, 0, 0, 0) x → S (14, t, p, o) 4 = 2 ∧ S (14, t, p, o) 3 = x) ∧ M (57, 0, 0, 0) (mi M t p o) < M (40, 0, 0, 0) 20
/-- producers -/
def rD (S M : zS) : Prop := ∀ x, 0 ≤ x → x < 4 → (S (3, 0, 0, 0) x = 0 ↔ M (62, 0, 0, 0) x = -1) ∧ (S (3, 0, 0, 0) x = 0 ∨ S (3, 0, 0, 0) x = 1) ∧ (¬ M (62, 0, 0, 0) x = -1 → (0 ≤ M (62, 0, 0, 0) x ∧ M (62, 0, 0, 0) x < M (40, 0, 0, 0) 20) ∧ M (61, 0, 0, 0) (M (62, 0, 0, 0) x) = 0) ∧ ∀ y, 0 ≤ y → y < 4 → M (62, 0, 0, 0) x = M (62, 0, 0, 0) y → ¬ M (62, 0, 0, 0) x = -1 → x = y
/-- all messages, in one row or by places -/
def fo3 (op : Int → Int → Int) (e : Int) (P : zP) (f : Int → Int → Int → Int) : Int := fo op e (fun t => fo op e (fun p => fo op e (f t p) 0 (P 2 t p)) 0 (P 1 t 0)) 0 (P 0 0 0)
def rE (P : zP) (M : zS) : Prop := ∀ op e, zcm op e → ∀ f : Int → Int, fo op e f 0 (M (40, 0, 0, 0) 11) = fo3 op e P (fun t p o => f (mi M t p o))
/-- marks, cursors, readers -/
def rF (P : zP) (S M : zS) : Prop := ∀ g p, inG P g → inQ P g p → M (65, 0, 0, 0) (g * 4 + p) = S (18, g, p, 0) 5 ∧ M (66, 0, 0, 0) (g * 4 + p) = S (18, g, p, 0) 6 ∧ M (67, 0, 0, 0) (g * 4 + p) = S (18, g, p, 0) 4
/-- who is in -/
def rG (P : zP) (S M : zS) : Prop := ∀ g r, inG P g → 0 ≤ r → r < 6 → M (68, 0, 0, 0) (g * 6 + r) = S (17, g, 0, 0) r ∧ (S (17, g, 0, 0) r = 0 ∨ S (17, g, 0, 0) r = 1)
/-- what became of messages: a dropped one is never underway -/
def rH (P : zP) (S M : zS) : Prop := ∀ g p o, inG P g → inQ P g p → inM P (P 4 g 0) p o → M (69, 0, 0, 0) (g * 80 + mi M (P 4 g 0) p o) = (if ¬ S (14, P 4 g 0, p, o) 5 = 0 ∧ ju S g p o then 0 else S (19, g, p, 0) o) ∧ M (70, 0, 0, 0) (g * 80 + mi M (P 4 g 0) p o) = (if ¬ S (14, P 4 g 0, p, o) 5 = 0 ∧ ju S g p o then 0 else S (20, g, p, 0) o) ∧ M (71, 0, 0, 0) (g * 80 + mi M (P 4 g 0) p o) = S (21, g, p, 0) o
/-- messages of other topics -/
def rI (P : zP) (M : zS) : Prop := ∀ g t p o, inG P g → inT P t → ¬ t = P 4 g 0 → inP P t p → inM P t p o → M (69, 0, 0, 0) (g * 80 + mi M t p o) = 0
/-- what is not yet there -/
def rJa (P : zP) (M : zS) : Prop := (∀ t, P 0 0 0 ≤ t → t < 4 → M (46, 0, 0, 0) t = 0 ∧ (∀ p, 0 ≤ p → p < 4 → M (47, 0, 0, 0) (t * 4 + p) = 0 ∧ M (48, 0, 0, 0) (t * 4 + p) = 0) ∧ ∀ x, 0 ≤ x → x < 4 → M (49, 0, 0, 0) (t * 4 + x) = 0) ∧ (∀ g r, P 3 0 0 ≤ g → g < 4 → 0 ≤ r → r < 6 → M (68, 0, 0, 0) (g * 6 + r) = 0) ∧ ∀ m, M (40, 0, 0, 0) 11 ≤ m → m < 80 → M (58, 0, 0, 0) m = 0
def rJh (P : zP) (M : zS) : Prop := ∀ g m, 0 ≤ g → g < 4 → 0 ≤ m → m < 80 → (P 3 0 0 ≤ g ∨ M (40, 0, 0, 0) 11 ≤ m) → M (69, 0, 0, 0) (g * 80 + m) = 0 ∧ M (70, 0, 0, 0) (g * 80 + m) = 0 ∧ M (71, 0, 0, 0) (g * 80 + m) = 0
def rN (M : zS) : Prop := ∀ k, M (69, 0, 0, 0) k = 1 → 1 ≤ M (70, 0, 0, 0) k
def rK (P : zP) (S : zS) : Prop := ∀ g p o, inG P g → inQ P g p → P 2 (P 4 g 0) p ≤ o → o < 80 → S (19, g, p, 0) o = 0 ∧ S (20, g, p, 0) o = 0 ∧ S (21, g, p, 0) o = 0
/-! what holds between calls -/
def s1 (P : zP) (S : zS) : Prop := ∀ g p o, inG P g → inQ P g p → inM P (P 4 g 0) p o → ¬ (¬ S (14, P 4 g 0, p, o) 5 = 0 ∧ ju S g p o)
def s2 (P : zP) (S : zS) : Prop := ∀ g p, inG P g → inQ P g p → ¬ zmc P g p S
def s3 (P : zP) (S : zS) : Prop := ∀ g p, inG P g → inQ P g p → S (18, g, p, 0) 5 ≤ S (18, g, p, 0) 6
def s4 (P : zP) (S : zS) : Prop := ∀ g p, inG P g → inQ P g p → S (18, g, p, 0) 4 = zsr P S g p (-1)
def s5 (P : zP) (S : zS) : Prop := ∀ g p o, inG P g → inQ P g p → (S (19, g, p, 0) o = 2 → S (20, g, p, 0) o ≤ 2) ∧ (S (19, g, p, 0) o = 0 → S (20, g, p, 0) o = 0)
def s6 (P : zP) (S : zS) : Prop := ∀ t x, inT P t → 0 ≤ x → x < 4 → 0 ≤ S (10, t, 0, 0) x ∧ S (10, t, 0, 0) x ≤ S (0, 0, 0, 0) 5
