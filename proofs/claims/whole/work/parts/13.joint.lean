/-! Each call, of both: they answer alike, and what ties them stays. -/
set_option maxHeartbeats 4000000 in
set_option maxRecDepth 100000 in
theorem j_write (l : Launch) (D : va_G) (x0 x1 x2 x3 x4 x5 : Nat) (r1 r2 r3 r4 r5 : ClassId) (z0 z1 z2 z3 z4 z5 : Nat) (t1 t2 t3 t4 t5 : ClassId) (fw fd fb : Nat → Int32) (lq dz : Nat → Bool) (pw mk : Bool) (lc : Nat) (lf : Option Nat) (cs : Nat) (gw gd gl : Nat → Int32) (dy lg : Nat → Bool) (h : Rel fw fd fb lq dz pw mk lc lf cs gw gd gl dy lg) (v1 v2 v3 : Int32) : ∃ (fw9 fd9 fb9 : Nat → Int32) (lq9 dz9 : Nat → Bool) (pw9 mk9 : Bool) (lc9 : Nat) (lf9 : Option Nat) (cs9 : Nat) (gw9 gd9 gl9 : Nat → Int32) (dy9 lg9 : Nat → Bool) (a9 : Int32), ct_i l yX0_write wsX0_write ({ frames := 1, cells := 0, slots := 0, locals := 20 }) D vwCl (XT r1 r2 r3 r4 r5) [.ref x0, .int v1, .int v2, .int v3] (XW x0 x1 x2 x3 x4 x5 r1 r2 r3 r4 r5 fw fd fb lq dz pw mk lc (lf.getD 0) cs) (XW x0 x1 x2 x3 x4 x5 r1 r2 r3 r4 r5 fw9 fd9 fb9 lq9 dz9 pw9 mk9 lc9 (lf9.getD 0) cs9) a9 ∧ ct_i l yX1_write wsX1_write ({ frames := 2, cells := 0, slots := 0, locals := 43 }) D vwCl (MT t1 t2 t3 t4 t5) [.ref z0, .int v1, .int v2, .int v3] (MW z0 z1 z2 z3 z4 z5 t1 t2 t3 t4 t5 gw gd gl dy lg (!pw) mk lc lf cs) (MW z0 z1 z2 z3 z4 z5 t1 t2 t3 t4 t5 gw9 gd9 gl9 dy9 lg9 (!pw9) mk9 lc9 lf9 cs9) a9 ∧ Rel fw9 fd9 fb9 lq9 dz9 pw9 mk9 lc9 lf9 cs9 gw9 gd9 gl9 dy9 lg9 := by
  obtain ⟨fw', dz', gw', dy', r, e1, e2, hR⟩ := st_write h v1 v2 v3
  have hX := c0_write l D x0 x1 x2 x3 x4 x5 r1 r2 r3 r4 r5 fw fd fb lq dz pw mk lc (lf.getD 0) cs v1 v2 v3
  rw [e1] at hX
  have hM := c1_write l D z0 z1 z2 z3 z4 z5 t1 t2 t3 t4 t5 gw gd gl dy lg (!pw) mk lc lf cs v1 v2 v3
  rw [e2] at hM
  exact ⟨fw', fd, fb, lq, dz', pw, mk, lc, lf, cs, gw', gd, gl, dy', lg, bI r, hX, hM, hR⟩
set_option maxHeartbeats 4000000 in
set_option maxRecDepth 100000 in
theorem j_read (l : Launch) (D : va_G) (x0 x1 x2 x3 x4 x5 : Nat) (r1 r2 r3 r4 r5 : ClassId) (z0 z1 z2 z3 z4 z5 : Nat) (t1 t2 t3 t4 t5 : ClassId) (fw fd fb : Nat → Int32) (lq dz : Nat → Bool) (pw mk : Bool) (lc : Nat) (lf : Option Nat) (cs : Nat) (gw gd gl : Nat → Int32) (dy lg : Nat → Bool) (h : Rel fw fd fb lq dz pw mk lc lf cs gw gd gl dy lg) (v1 v2 : Int32) : ∃ (fw9 fd9 fb9 : Nat → Int32) (lq9 dz9 : Nat → Bool) (pw9 mk9 : Bool) (lc9 : Nat) (lf9 : Option Nat) (cs9 : Nat) (gw9 gd9 gl9 : Nat → Int32) (dy9 lg9 : Nat → Bool) (a9 : Int32), ct_i l yX0_read wsX0_read ({ frames := 1, cells := 0, slots := 0, locals := 20 }) D vwCl (XT r1 r2 r3 r4 r5) [.ref x0, .int v1, .int v2] (XW x0 x1 x2 x3 x4 x5 r1 r2 r3 r4 r5 fw fd fb lq dz pw mk lc (lf.getD 0) cs) (XW x0 x1 x2 x3 x4 x5 r1 r2 r3 r4 r5 fw9 fd9 fb9 lq9 dz9 pw9 mk9 lc9 (lf9.getD 0) cs9) a9 ∧ ct_i l yX1_read wsX1_read ({ frames := 2, cells := 0, slots := 0, locals := 43 }) D vwCl (MT t1 t2 t3 t4 t5) [.ref z0, .int v1, .int v2] (MW z0 z1 z2 z3 z4 z5 t1 t2 t3 t4 t5 gw gd gl dy lg (!pw) mk lc lf cs) (MW z0 z1 z2 z3 z4 z5 t1 t2 t3 t4 t5 gw9 gd9 gl9 dy9 lg9 (!pw9) mk9 lc9 lf9 cs9) a9 ∧ Rel fw9 fd9 fb9 lq9 dz9 pw9 mk9 lc9 lf9 cs9 gw9 gd9 gl9 dy9 lg9 := by
  have hX := c0_read l D x0 x1 x2 x3 x4 x5 r1 r2 r3 r4 r5 fw fd fb lq dz pw mk lc (lf.getD 0) cs v1 v2
  have hM := c1_read l D z0 z1 z2 z3 z4 z5 t1 t2 t3 t4 t5 gw gd gl dy lg (!pw) mk lc lf cs v1 v2
  rw [← rd_eq pw (fun q => (h.2.2.2.2.1 q).2.1) v1 v2] at hM
  exact ⟨fw, fd, fb, lq, dz, pw, mk, lc, lf, cs, gw, gd, gl, dy, lg, _, hX, hM, h⟩
set_option maxHeartbeats 4000000 in
set_option maxRecDepth 100000 in
theorem j_disk (l : Launch) (D : va_G) (x0 x1 x2 x3 x4 x5 : Nat) (r1 r2 r3 r4 r5 : ClassId) (z0 z1 z2 z3 z4 z5 : Nat) (t1 t2 t3 t4 t5 : ClassId) (fw fd fb : Nat → Int32) (lq dz : Nat → Bool) (pw mk : Bool) (lc : Nat) (lf : Option Nat) (cs : Nat) (gw gd gl : Nat → Int32) (dy lg : Nat → Bool) (h : Rel fw fd fb lq dz pw mk lc lf cs gw gd gl dy lg) (v1 v2 : Int32) : ∃ (fw9 fd9 fb9 : Nat → Int32) (lq9 dz9 : Nat → Bool) (pw9 mk9 : Bool) (lc9 : Nat) (lf9 : Option Nat) (cs9 : Nat) (gw9 gd9 gl9 : Nat → Int32) (dy9 lg9 : Nat → Bool) (a9 : Int32), ct_i l yX0_disk wsX0_disk ({ frames := 1, cells := 0, slots := 0, locals := 20 }) D vwCl (XT r1 r2 r3 r4 r5) [.ref x0, .int v1, .int v2] (XW x0 x1 x2 x3 x4 x5 r1 r2 r3 r4 r5 fw fd fb lq dz pw mk lc (lf.getD 0) cs) (XW x0 x1 x2 x3 x4 x5 r1 r2 r3 r4 r5 fw9 fd9 fb9 lq9 dz9 pw9 mk9 lc9 (lf9.getD 0) cs9) a9 ∧ ct_i l yX1_disk wsX1_disk ({ frames := 2, cells := 0, slots := 0, locals := 43 }) D vwCl (MT t1 t2 t3 t4 t5) [.ref z0, .int v1, .int v2] (MW z0 z1 z2 z3 z4 z5 t1 t2 t3 t4 t5 gw gd gl dy lg (!pw) mk lc lf cs) (MW z0 z1 z2 z3 z4 z5 t1 t2 t3 t4 t5 gw9 gd9 gl9 dy9 lg9 (!pw9) mk9 lc9 lf9 cs9) a9 ∧ Rel fw9 fd9 fb9 lq9 dz9 pw9 mk9 lc9 lf9 cs9 gw9 gd9 gl9 dy9 lg9 := by
  have hX := c0_disk l D x0 x1 x2 x3 x4 x5 r1 r2 r3 r4 r5 fw fd fb lq dz pw mk lc (lf.getD 0) cs v1 v2
  have hM := c1_disk l D z0 z1 z2 z3 z4 z5 t1 t2 t3 t4 t5 gw gd gl dy lg (!pw) mk lc lf cs v1 v2
  have e := rd_eq (f := fd) (g := gd) true (fun _ => h.2.2.2.1) v1 v2
  have e : xrd true fd v1 v2 = mrd false gd v1 v2 := e
  rw [← e] at hM
  exact ⟨fw, fd, fb, lq, dz, pw, mk, lc, lf, cs, gw, gd, gl, dy, lg, _, hX, hM, h⟩
set_option maxHeartbeats 4000000 in
set_option maxRecDepth 100000 in
theorem j_dirty (l : Launch) (D : va_G) (x0 x1 x2 x3 x4 x5 : Nat) (r1 r2 r3 r4 r5 : ClassId) (z0 z1 z2 z3 z4 z5 : Nat) (t1 t2 t3 t4 t5 : ClassId) (fw fd fb : Nat → Int32) (lq dz : Nat → Bool) (pw mk : Bool) (lc : Nat) (lf : Option Nat) (cs : Nat) (gw gd gl : Nat → Int32) (dy lg : Nat → Bool) (h : Rel fw fd fb lq dz pw mk lc lf cs gw gd gl dy lg) (v1 : Int32) : ∃ (fw9 fd9 fb9 : Nat → Int32) (lq9 dz9 : Nat → Bool) (pw9 mk9 : Bool) (lc9 : Nat) (lf9 : Option Nat) (cs9 : Nat) (gw9 gd9 gl9 : Nat → Int32) (dy9 lg9 : Nat → Bool) (a9 : Int32), ct_i l yX0_dirty wsX0_dirty ({ frames := 1, cells := 0, slots := 0, locals := 20 }) D vwCl (XT r1 r2 r3 r4 r5) [.ref x0, .int v1] (XW x0 x1 x2 x3 x4 x5 r1 r2 r3 r4 r5 fw fd fb lq dz pw mk lc (lf.getD 0) cs) (XW x0 x1 x2 x3 x4 x5 r1 r2 r3 r4 r5 fw9 fd9 fb9 lq9 dz9 pw9 mk9 lc9 (lf9.getD 0) cs9) a9 ∧ ct_i l yX1_dirty wsX1_dirty ({ frames := 2, cells := 0, slots := 0, locals := 43 }) D vwCl (MT t1 t2 t3 t4 t5) [.ref z0, .int v1] (MW z0 z1 z2 z3 z4 z5 t1 t2 t3 t4 t5 gw gd gl dy lg (!pw) mk lc lf cs) (MW z0 z1 z2 z3 z4 z5 t1 t2 t3 t4 t5 gw9 gd9 gl9 dy9 lg9 (!pw9) mk9 lc9 lf9 cs9) a9 ∧ Rel fw9 fd9 fb9 lq9 dz9 pw9 mk9 lc9 lf9 cs9 gw9 gd9 gl9 dy9 lg9 := by
  have hX := c0_dirty l D x0 x1 x2 x3 x4 x5 r1 r2 r3 r4 r5 fw fd fb lq dz pw mk lc (lf.getD 0) cs v1
  have hM := c1_dirty l D z0 z1 z2 z3 z4 z5 t1 t2 t3 t4 t5 gw gd gl dy lg (!pw) mk lc lf cs v1
  rw [← dt_eq h v1] at hM
  exact ⟨fw, fd, fb, lq, dz, pw, mk, lc, lf, cs, gw, gd, gl, dy, lg, _, hX, hM, h⟩
set_option maxHeartbeats 4000000 in
set_option maxRecDepth 100000 in
theorem j_revert (l : Launch) (D : va_G) (x0 x1 x2 x3 x4 x5 : Nat) (r1 r2 r3 r4 r5 : ClassId) (z0 z1 z2 z3 z4 z5 : Nat) (t1 t2 t3 t4 t5 : ClassId) (fw fd fb : Nat → Int32) (lq dz : Nat → Bool) (pw mk : Bool) (lc : Nat) (lf : Option Nat) (cs : Nat) (gw gd gl : Nat → Int32) (dy lg : Nat → Bool) (h : Rel fw fd fb lq dz pw mk lc lf cs gw gd gl dy lg) : ∃ (fw9 fd9 fb9 : Nat → Int32) (lq9 dz9 : Nat → Bool) (pw9 mk9 : Bool) (lc9 : Nat) (lf9 : Option Nat) (cs9 : Nat) (gw9 gd9 gl9 : Nat → Int32) (dy9 lg9 : Nat → Bool) (a9 : Int32), ct_i l yX0_revert wsX0_revert ({ frames := 2, cells := 0, slots := 0, locals := 41 }) D vwCl (XT r1 r2 r3 r4 r5) [.ref x0] (XW x0 x1 x2 x3 x4 x5 r1 r2 r3 r4 r5 fw fd fb lq dz pw mk lc (lf.getD 0) cs) (XW x0 x1 x2 x3 x4 x5 r1 r2 r3 r4 r5 fw9 fd9 fb9 lq9 dz9 pw9 mk9 lc9 (lf9.getD 0) cs9) a9 ∧ ct_i l yX1_revert wsX1_revert ({ frames := 2, cells := 0, slots := 0, locals := 46 }) D vwCl (MT t1 t2 t3 t4 t5) [.ref z0] (MW z0 z1 z2 z3 z4 z5 t1 t2 t3 t4 t5 gw gd gl dy lg (!pw) mk lc lf cs) (MW z0 z1 z2 z3 z4 z5 t1 t2 t3 t4 t5 gw9 gd9 gl9 dy9 lg9 (!pw9) mk9 lc9 lf9 cs9) a9 ∧ Rel fw9 fd9 fb9 lq9 dz9 pw9 mk9 lc9 lf9 cs9 gw9 gd9 gl9 dy9 lg9 := by
  have hX := c0_revert l D x0 x1 x2 x3 x4 x5 r1 r2 r3 r4 r5 fw fd fb lq dz pw mk lc (lf.getD 0) cs 
  have hM := c1_revert l D z0 z1 z2 z3 z4 z5 t1 t2 t3 t4 t5 gw gd gl dy lg (!pw) mk lc lf cs 
  have e : (!(!pw)) = pw := Bool.not_not pw
  rw [e] at hM
  exact ⟨_, _, _, _, _, _, _, _, _, _, _, _, _, _, _, _, hX, hM, st_revert h⟩
set_option maxHeartbeats 4000000 in
set_option maxRecDepth 100000 in
theorem j_cut (l : Launch) (D : va_G) (x0 x1 x2 x3 x4 x5 : Nat) (r1 r2 r3 r4 r5 : ClassId) (z0 z1 z2 z3 z4 z5 : Nat) (t1 t2 t3 t4 t5 : ClassId) (fw fd fb : Nat → Int32) (lq dz : Nat → Bool) (pw mk : Bool) (lc : Nat) (lf : Option Nat) (cs : Nat) (gw gd gl : Nat → Int32) (dy lg : Nat → Bool) (h : Rel fw fd fb lq dz pw mk lc lf cs gw gd gl dy lg) (v1 v2 : Int32) : ∃ (fw9 fd9 fb9 : Nat → Int32) (lq9 dz9 : Nat → Bool) (pw9 mk9 : Bool) (lc9 : Nat) (lf9 : Option Nat) (cs9 : Nat) (gw9 gd9 gl9 : Nat → Int32) (dy9 lg9 : Nat → Bool) (a9 : Int32), ct_i l yX0_cut wsX0_cut ({ frames := 0, cells := 0, slots := 0, locals := 0 }) D vwCl (XT r1 r2 r3 r4 r5) [.ref x0, .int v1, .int v2] (XW x0 x1 x2 x3 x4 x5 r1 r2 r3 r4 r5 fw fd fb lq dz pw mk lc (lf.getD 0) cs) (XW x0 x1 x2 x3 x4 x5 r1 r2 r3 r4 r5 fw9 fd9 fb9 lq9 dz9 pw9 mk9 lc9 (lf9.getD 0) cs9) a9 ∧ ct_i l yX1_cut wsX1_cut ({ frames := 1, cells := 0, slots := 0, locals := 22 }) D vwCl (MT t1 t2 t3 t4 t5) [.ref z0, .int v1, .int v2] (MW z0 z1 z2 z3 z4 z5 t1 t2 t3 t4 t5 gw gd gl dy lg (!pw) mk lc lf cs) (MW z0 z1 z2 z3 z4 z5 t1 t2 t3 t4 t5 gw9 gd9 gl9 dy9 lg9 (!pw9) mk9 lc9 lf9 cs9) a9 ∧ Rel fw9 fd9 fb9 lq9 dz9 pw9 mk9 lc9 lf9 cs9 gw9 gd9 gl9 dy9 lg9 := by
  obtain ⟨lf', cs', r, e1, e2, hR⟩ := st_cut h v1 v2
  have hX := c0_cut l D x0 x1 x2 x3 x4 x5 r1 r2 r3 r4 r5 fw fd fb lq dz pw mk lc (lf.getD 0) cs v1 v2
  rw [e1] at hX
  have hM := c1_cut l D z0 z1 z2 z3 z4 z5 t1 t2 t3 t4 t5 gw gd gl dy lg (!pw) mk lc lf cs v1 v2
  rw [e2] at hM
  exact ⟨fw, fd, fb, lq, dz, pw, mk, lc, lf', cs', gw, gd, gl, dy, lg, bI r, hX, hM, hR⟩
set_option maxHeartbeats 4000000 in
set_option maxRecDepth 100000 in
theorem j_state (l : Launch) (D : va_G) (x0 x1 x2 x3 x4 x5 : Nat) (r1 r2 r3 r4 r5 : ClassId) (z0 z1 z2 z3 z4 z5 : Nat) (t1 t2 t3 t4 t5 : ClassId) (fw fd fb : Nat → Int32) (lq dz : Nat → Bool) (pw mk : Bool) (lc : Nat) (lf : Option Nat) (cs : Nat) (gw gd gl : Nat → Int32) (dy lg : Nat → Bool) (h : Rel fw fd fb lq dz pw mk lc lf cs gw gd gl dy lg) (v1 : Int32) : ∃ (fw9 fd9 fb9 : Nat → Int32) (lq9 dz9 : Nat → Bool) (pw9 mk9 : Bool) (lc9 : Nat) (lf9 : Option Nat) (cs9 : Nat) (gw9 gd9 gl9 : Nat → Int32) (dy9 lg9 : Nat → Bool) (a9 : Int32), ct_i l yX0_state wsX0_state ({ frames := 0, cells := 0, slots := 0, locals := 0 }) D vwCl (XT r1 r2 r3 r4 r5) [.ref x0, .int v1] (XW x0 x1 x2 x3 x4 x5 r1 r2 r3 r4 r5 fw fd fb lq dz pw mk lc (lf.getD 0) cs) (XW x0 x1 x2 x3 x4 x5 r1 r2 r3 r4 r5 fw9 fd9 fb9 lq9 dz9 pw9 mk9 lc9 (lf9.getD 0) cs9) a9 ∧ ct_i l yX1_state wsX1_state ({ frames := 0, cells := 0, slots := 0, locals := 0 }) D vwCl (MT t1 t2 t3 t4 t5) [.ref z0, .int v1] (MW z0 z1 z2 z3 z4 z5 t1 t2 t3 t4 t5 gw gd gl dy lg (!pw) mk lc lf cs) (MW z0 z1 z2 z3 z4 z5 t1 t2 t3 t4 t5 gw9 gd9 gl9 dy9 lg9 (!pw9) mk9 lc9 lf9 cs9) a9 ∧ Rel fw9 fd9 fb9 lq9 dz9 pw9 mk9 lc9 lf9 cs9 gw9 gd9 gl9 dy9 lg9 := by
  have hX := c0_state l D x0 x1 x2 x3 x4 x5 r1 r2 r3 r4 r5 fw fd fb lq dz pw mk lc (lf.getD 0) cs v1
  have hM := c1_state l D z0 z1 z2 z3 z4 z5 t1 t2 t3 t4 t5 gw gd gl dy lg (!pw) mk lc lf cs v1
  rw [← st_state v1] at hM
  exact ⟨fw, fd, fb, lq, dz, pw, mk, lc, lf, cs, gw, gd, gl, dy, lg, _, hX, hM, h⟩
set_option maxHeartbeats 4000000 in
set_option maxRecDepth 100000 in
theorem j_commit (l : Launch) (D : va_G) (x0 x1 x2 x3 x4 x5 : Nat) (r1 r2 r3 r4 r5 : ClassId) (z0 z1 z2 z3 z4 z5 : Nat) (t1 t2 t3 t4 t5 : ClassId) (fw fd fb : Nat → Int32) (lq dz : Nat → Bool) (pw mk : Bool) (lc : Nat) (lf : Option Nat) (cs : Nat) (gw gd gl : Nat → Int32) (dy lg : Nat → Bool) (h : Rel fw fd fb lq dz pw mk lc lf cs gw gd gl dy lg) : ∃ (fw9 fd9 fb9 : Nat → Int32) (lq9 dz9 : Nat → Bool) (pw9 mk9 : Bool) (lc9 : Nat) (lf9 : Option Nat) (cs9 : Nat) (gw9 gd9 gl9 : Nat → Int32) (dy9 lg9 : Nat → Bool) (a9 : Int32), ct_i l yX0_commit wsX0_commit ({ frames := 3, cells := 0, slots := 0, locals := 64 }) D vwCl (XT r1 r2 r3 r4 r5) [.ref x0] (XW x0 x1 x2 x3 x4 x5 r1 r2 r3 r4 r5 fw fd fb lq dz pw mk lc (lf.getD 0) cs) (XW x0 x1 x2 x3 x4 x5 r1 r2 r3 r4 r5 fw9 fd9 fb9 lq9 dz9 pw9 mk9 lc9 (lf9.getD 0) cs9) a9 ∧ ct_i l yX1_commit wsX1_commit ({ frames := 2, cells := 0, slots := 0, locals := 46 }) D vwCl (MT t1 t2 t3 t4 t5) [.ref z0] (MW z0 z1 z2 z3 z4 z5 t1 t2 t3 t4 t5 gw gd gl dy lg (!pw) mk lc lf cs) (MW z0 z1 z2 z3 z4 z5 t1 t2 t3 t4 t5 gw9 gd9 gl9 dy9 lg9 (!pw9) mk9 lc9 lf9 cs9) a9 ∧ Rel fw9 fd9 fb9 lq9 dz9 pw9 mk9 lc9 lf9 cs9 gw9 gd9 gl9 dy9 lg9 := by
  cases pw with
  | false =>
    have hX := c0_commit_off l D x0 x1 x2 x3 x4 x5 r1 r2 r3 r4 r5 fw fd fb lq dz mk lc (lf.getD 0) cs 
    have hM := c1_commit_off l D z0 z1 z2 z3 z4 z5 t1 t2 t3 t4 t5 gw gd gl dy lg mk lc lf cs 
    exact ⟨fw, fd, fb, lq, dz, false, mk, lc, lf, cs, gw, gd, gl, dy, lg, bI false, hX, hM, h⟩
  | true =>
    obtain ⟨h1, h2, h3, h5, h6, h7⟩ := id h
    have e1 : cnt dy 24 = cnt dz 24 := (cnt_congr 24 (h6 rfl).2.2).symm
    have hmk := (h6 rfl).1
    subst hmk
    by_cases hl : lf = some 1
    · subst hl
      have et : tkS 1 cs = cs := by simp [tkS]
      rcases Nat.lt_or_ge cs 500 with h8 | h8
      · have hX := c0_commit_low l D x0 x1 x2 x3 x4 x5 r1 r2 r3 r4 r5 fw fd fb lq dz false lc 1 cs (by decide) h3 (by rw [et]; exact h8)
        have hM := c1_commit_low l D z0 z1 z2 z3 z4 z5 t1 t2 t3 t4 t5 gw gd gl dy lg false lc cs h3 h8
        rw [e1] at hM
        exact ⟨fw, fd, _, _, clr dz 24, false, false, cnt dz 24, some 0, cs, gw, gd, gl, dy, lg, bI false, hX, hM, st_low h _ (some 0) (fun j hj => by cases hj; decide)⟩
      · have hX := c0_commit_mid l D x0 x1 x2 x3 x4 x5 r1 r2 r3 r4 r5 fw fd fb lq dz false lc 1 cs (by decide) h3 (by rw [et]; exact h8) (by rw [et]; exact h3)
        rw [et] at hX
        have hM := c1_commit_mid l D z0 z1 z2 z3 z4 z5 t1 t2 t3 t4 t5 gw gd gl dy lg false lc cs h3 h8
        rw [e1] at hM
        exact ⟨fw, _, _, _, clr dz 24, false, true, cnt dz 24, some 0, cs, gw, _, _, clr dy 24, lgK dy lg 24, bI false, hX, hM, st_mid h (cnt dz 24 * (cs - 500) / 500) (some 0) (fun j hj => by cases hj; decide)⟩
    · have et := tkS_go (cs := cs) hl
      have hX := c0_commit_full l D x0 x1 x2 x3 x4 x5 r1 r2 r3 r4 r5 fw fd fb lq dz false lc (lf.getD 0) cs (getD_le h2) h3 (by rw [et]; decide) et
      rw [et, show cnt dz 24 * (1000 - 500) / 500 = cnt dz 24 by omega, ← lfD_getD] at hX
      have hM := c1_commit_go l D z0 z1 z2 z3 z4 z5 t1 t2 t3 t4 t5 gw gd gl dy lg false lc lf cs hl h2 h3
      rw [e1] at hM
      exact ⟨_, _, _, _, _, _, _, _, _, _, _, _, _, _, _, _, hX, hM, st_go h⟩
set_option maxHeartbeats 4000000 in
set_option maxRecDepth 100000 in
theorem j_start (l : Launch) (D : va_G) (x0 x1 x2 x3 x4 x5 : Nat) (r1 r2 r3 r4 r5 : ClassId) (z0 z1 z2 z3 z4 z5 : Nat) (t1 t2 t3 t4 t5 : ClassId) (fw fd fb : Nat → Int32) (lq dz : Nat → Bool) (pw mk : Bool) (lc : Nat) (lf : Option Nat) (cs : Nat) (gw gd gl : Nat → Int32) (dy lg : Nat → Bool) (h : Rel fw fd fb lq dz pw mk lc lf cs gw gd gl dy lg) (v1 : Int32) : ∃ (fw9 fd9 fb9 : Nat → Int32) (lq9 dz9 : Nat → Bool) (pw9 mk9 : Bool) (lc9 : Nat) (lf9 : Option Nat) (cs9 : Nat) (gw9 gd9 gl9 : Nat → Int32) (dy9 lg9 : Nat → Bool) (a9 : Int32), ct_i l yX0_start wsX0_start ({ frames := 3, cells := 0, slots := 0, locals := 64 }) D vwCl (XT r1 r2 r3 r4 r5) [.ref x0, .int v1] (XW x0 x1 x2 x3 x4 x5 r1 r2 r3 r4 r5 fw fd fb lq dz pw mk lc (lf.getD 0) cs) (XW x0 x1 x2 x3 x4 x5 r1 r2 r3 r4 r5 fw9 fd9 fb9 lq9 dz9 pw9 mk9 lc9 (lf9.getD 0) cs9) a9 ∧ ct_i l yX1_start wsX1_start ({ frames := 2, cells := 0, slots := 0, locals := 46 }) D vwCl (MT t1 t2 t3 t4 t5) [.ref z0, .int v1] (MW z0 z1 z2 z3 z4 z5 t1 t2 t3 t4 t5 gw gd gl dy lg (!pw) mk lc lf cs) (MW z0 z1 z2 z3 z4 z5 t1 t2 t3 t4 t5 gw9 gd9 gl9 dy9 lg9 (!pw9) mk9 lc9 lf9 cs9) a9 ∧ Rel fw9 fd9 fb9 lq9 dz9 pw9 mk9 lc9 lf9 cs9 gw9 gd9 gl9 dy9 lg9 := by
  rcases ix_cases 1001 (by decide) v1 with ⟨e1, h9⟩ | ⟨t, ht, rfl, e1⟩
  · have hX := c0_start_no l D x0 x1 x2 x3 x4 x5 r1 r2 r3 r4 r5 fw fd fb lq dz pw mk lc (lf.getD 0) cs v1 (Or.inr h9)
    have hM := c1_start_no l D z0 z1 z2 z3 z4 z5 t1 t2 t3 t4 t5 gw gd gl dy lg (!pw) mk lc lf cs v1 (Or.inr h9)
    exact ⟨fw, fd, fb, lq, dz, pw, mk, lc, lf, cs, gw, gd, gl, dy, lg, _, hX, hM, h⟩
  · cases pw with
    | true =>
      have hX := c0_start_no l D x0 x1 x2 x3 x4 x5 r1 r2 r3 r4 r5 fw fd fb lq dz true mk lc (lf.getD 0) cs (nI t) (Or.inl rfl)
      have hM := c1_start_no l D z0 z1 z2 z3 z4 z5 t1 t2 t3 t4 t5 gw gd gl dy lg false mk lc lf cs (nI t) (Or.inl rfl)
      exact ⟨fw, fd, fb, lq, dz, true, mk, lc, lf, cs, gw, gd, gl, dy, lg, bI false, hX, hM, h⟩
    | false =>
      rcases Nat.lt_or_ge t 1000 with h8 | h8
      · have hX := c0_start_cut l D x0 x1 x2 x3 x4 x5 r1 r2 r3 r4 r5 fw fd fb lq dz mk lc (lf.getD 0) cs t h8 h.1
        have hM := c1_start_cut l D z0 z1 z2 z3 z4 z5 t1 t2 t3 t4 t5 gw gd gl dy lg mk lc lf cs t h8
        exact ⟨fw, _, fb, lq, dz, false, mk, lc, lf, cs, gw, _, gl, dy, lg, bI false, hX, hM, st_scut h (by omega)⟩
      · obtain rfl : t = 1000 := by omega
        have hX := c0_start_on l D x0 x1 x2 x3 x4 x5 r1 r2 r3 r4 r5 fw fd fb lq dz mk lc (lf.getD 0) cs h.1
        have hM := c1_start_on l D z0 z1 z2 z3 z4 z5 t1 t2 t3 t4 t5 gw gd gl dy lg mk lc lf cs 
        exact ⟨_, _, fb, lq, _, true, false, lc, lf, cs, _, _, gl, _, lg, bI true, hX, hM, st_son h⟩
