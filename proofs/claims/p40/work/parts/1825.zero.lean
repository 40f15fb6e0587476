/-! ===== what the steps leave alone ===== -/
theorem zku_0 {P : zP} {S : zS} {g p f : Int} : zku P S g p (0, 0, 0, 0) f = S (0, 0, 0, 0) f := zku_fr (K := fun n => n == 18 || n == 19 || n == 20) rfl rfl rfl _ _ rfl
theorem zgv_0 {S : zS} {g p o x f : Int} : zgv S g p o x (0, 0, 0, 0) f = S (0, 0, 0, 0) f := zgv_fr (K := fun n => n == 18 || n == 19 || n == 20 || n == 21) rfl rfl rfl rfl _ _ rfl
theorem zv2_0 {P : zP} {g p f : Int} {s : zS × Int} : (zv2 P g p s).1 (0, 0, 0, 0) f = s.1 (0, 0, 0, 0) f := zv2_fr (K := fun n => n == 1 || n == 2 || n == 19 || n == 21) rfl rfl rfl rfl _ _ rfl
theorem zv3_0 {P : zP} {g f : Int} {s : zS × Int} : (zv3 P g s).1 (0, 0, 0, 0) f = s.1 (0, 0, 0, 0) f := zv3_fr (K := fun n => n == 1 || n == 2 || n == 19 || n == 21) rfl rfl rfl rfl _ _ rfl
theorem zv4_0 {P : zP} {x t f : Int} {S : zS} : zv4 P x t S (0, 0, 0, 0) f = S (0, 0, 0, 0) f := zv4_fr (K := fun n => n == 11 || n == 14) rfl rfl _ _ rfl
theorem zgbr_n {S : zS} {g p o x y : Int} (hx : 0 ≤ x) (hy : 1 ≤ y ∧ y ≤ 20) : (zgbr S g p o x y = -1 ↔ 3 ≤ S (20, g, p, 0) o) := by
  have h := zsh_le (y := y) (s := S (20, g, p, 0) o - 1) hy
  unfold zgbr
  split
  · next h1 => exact ⟨fun _ => h1, fun _ => rfl⟩
  · next h1 => exact ⟨fun q => by omega, fun q => absurd q h1⟩
theorem zgbr_le {S : zS} {g p o x y : Int} (hx : 0 ≤ x ∧ x ≤ 9999) (hy : 1 ≤ y ∧ y ≤ 20) : -1 ≤ zgbr S g p o x y ∧ zgbr S g p o x y ≤ 20000 := by
  have h := zsh_le (y := y) (s := S (20, g, p, 0) o - 1) hy
  unfold zgbr
  split <;> omega
theorem G_zret_m {Γ : zCx} {R : Room} {cc : ByteArray} {nL : Nat} {own : String} {ad : zK → Nat} {M M' : zMem} {nc ns pc : Nat} {lv : List (Nat × Value)} {mn : String} {mc ms : Nat} {v w : Int} (hf : zFn Γ mn (some .boolean) (zD (some (.int (zI w))) ad M') mc ms) (hd : decode cc pc = .ok (.ireturn, 1)) (hc : nc ≤ mc ∧ ns ≤ ms) (hb : v = 0 ∨ v = 1) (he : v = w) (hM : M = M') : G Γ R cc nL own ad M nc ns pc lv [.int (zI v)] := G_zret hf hd hc hb ⟨by rw [he], rfl, hM⟩
