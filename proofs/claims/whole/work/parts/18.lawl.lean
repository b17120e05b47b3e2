def lb_W_law (xs : Nat → Int32) (Ln : Nat) (rec : Int32 → rd_M → Option Int32) (v28_5 : Int32) (v28_M : rd_M) : Option Int32 :=
    if ((Int32.ofNat Ln) - 6) < v28_5 then
      some 1
    else
      if rd_in v28_5 Ln then
      if ((xs (v28_5).toNatClampNeg) &&& 31) = 0 then
        if rd_in (v28_5 + 1) Ln then
        if rd_in (v28_5 + 2) Ln then
        if rd_nn (FP.dmul (FP.i2d (xs (v28_5 + 2).toNatClampNeg)) 4593671619917905920) then
        (f_W_price v28_M (xs (v28_5 + 1).toNatClampNeg) (FP.dmul (FP.i2d (xs (v28_5 + 2).toNatClampNeg)) 4593671619917905920)).bind fun r6 =>
        if rd_in (v28_5 + 1) Ln then
        if rd_in (v28_5 + 2) Ln then
        if rd_nn (FP.dmul (FP.i2d (xs (v28_5 + 2).toNatClampNeg)) 4593671619917905920) then
        (f_N_price (fun k => r6.2 (117 + k)) (xs (v28_5 + 1).toNatClampNeg) (FP.dmul (FP.i2d (xs (v28_5 + 2).toNatClampNeg)) 4593671619917905920)).bind fun r9 =>
        (f_N_thrown (fun k => (rd_pm 22 117 r6.2 r9.2) (117 + k))).bind fun r10 =>
        if r10 = r6.1 then
          if r6.1 = 0 then
            if (lg_cmp (((rd_pm 22 117 r6.2 r9.2) 139).2.1 0) r9.1.toInt64) = 0 then
              rec (v28_5 + 6) (rd_pm 22 117 r6.2 r9.2)
            else
              some 0
          else
            rec (v28_5 + 6) (rd_pm 22 117 r6.2 r9.2)
        else
          some 0
        else none
        else none
        else none
        else none
        else none
        else none
      else if ((xs (v28_5).toNatClampNeg) &&& 31) = 1 then
        if rd_in (v28_5 + 1) Ln then
        if rd_in (v28_5 + 2) Ln then
        if rd_nn (FP.dmul (FP.i2d (xs (v28_5 + 2).toNatClampNeg)) 4593671619917905920) then
        (f_W_deposit v28_M (xs (v28_5 + 1).toNatClampNeg) (FP.dmul (FP.i2d (xs (v28_5 + 2).toNatClampNeg)) 4593671619917905920)).bind fun r17 =>
        if rd_in (v28_5 + 1) Ln then
        if rd_in (v28_5 + 2) Ln then
        if rd_nn (FP.dmul (FP.i2d (xs (v28_5 + 2).toNatClampNeg)) 4593671619917905920) then
        (f_N_deposit (fun k => r17.2 (117 + k)) (xs (v28_5 + 1).toNatClampNeg) (FP.dmul (FP.i2d (xs (v28_5 + 2).toNatClampNeg)) 4593671619917905920)).bind fun r20 =>
        (f_N_thrown (fun k => (rd_pm 22 117 r17.2 r20.2) (117 + k))).bind fun r21 =>
        if r21 = r17.1 then
          if r17.1 = 0 then
            if (Op.cmpValue (FP.dcmp (((rd_pm 22 117 r17.2 r20.2) 140).2.2 0) r20.1) .l) = 0 then
              rec (v28_5 + 6) (rd_pm 22 117 r17.2 r20.2)
            else
              if (Op.cmpValue (FP.dcmp (((rd_pm 22 117 r17.2 r20.2) 140).2.2 0) (((rd_pm 22 117 r17.2 r20.2) 140).2.2 0)) .l) = 0 then
                some 0
              else
                if (Op.cmpValue (FP.dcmp r20.1 r20.1) .l) = 0 then
                  some 0
                else
                  rec (v28_5 + 6) (rd_pm 22 117 r17.2 r20.2)
          else
            rec (v28_5 + 6) (rd_pm 22 117 r17.2 r20.2)
        else
          some 0
        else none
        else none
        else none
        else none
        else none
        else none
      else if ((xs (v28_5).toNatClampNeg) &&& 31) = 2 then
        if rd_in (v28_5 + 1) Ln then
        (f_W_contact v28_M (xs (v28_5 + 1).toNatClampNeg)).bind fun r29 =>
        if rd_in (v28_5 + 1) Ln then
        (f_N_contact (fun k => r29.2 (117 + k)) (xs (v28_5 + 1).toNatClampNeg)).bind fun r31 =>
        (f_N_thrown (fun k => (rd_pm 22 117 r29.2 r31.2) (117 + k))).bind fun r32 =>
        if r32 = r29.1 then
          if r29.1 = 0 then
            if (lg_cmp (((rd_pm 22 117 r29.2 r31.2) 139).2.1 0) r31.1.toInt64) = 0 then
              rec (v28_5 + 6) (rd_pm 22 117 r29.2 r31.2)
            else
              some 0
          else
            rec (v28_5 + 6) (rd_pm 22 117 r29.2 r31.2)
        else
          some 0
        else none
        else none
      else if ((xs (v28_5).toNatClampNeg) &&& 31) = 3 then
        if rd_in (v28_5 + 1) Ln then
        if rd_in (v28_5 + 2) Ln then
        if rd_in (v28_5 + 3) Ln then
        (f_W_host v28_M (xs (v28_5 + 1).toNatClampNeg) (xs (v28_5 + 2).toNatClampNeg) (xs (v28_5 + 3).toNatClampNeg)).bind fun r40 =>
        if rd_in (v28_5 + 1) Ln then
        if rd_in (v28_5 + 2) Ln then
        if rd_in (v28_5 + 3) Ln then
        (f_N_host (fun k => r40.2 (117 + k)) (xs (v28_5 + 1).toNatClampNeg) (xs (v28_5 + 2).toNatClampNeg) (xs (v28_5 + 3).toNatClampNeg)).bind fun r44 =>
        (f_N_thrown (fun k => (rd_pm 22 117 r40.2 r44.2) (117 + k))).bind fun r45 =>
        if r45 = r40.1 then
          if r40.1 = 0 then
            if (lg_cmp (((rd_pm 22 117 r40.2 r44.2) 139).2.1 0) r44.1.toInt64) = 0 then
              rec (v28_5 + 6) (rd_pm 22 117 r40.2 r44.2)
            else
              some 0
          else
            rec (v28_5 + 6) (rd_pm 22 117 r40.2 r44.2)
        else
          some 0
        else none
        else none
        else none
        else none
        else none
        else none
      else if ((xs (v28_5).toNatClampNeg) &&& 31) = 4 then
        if rd_in (v28_5 + 1) Ln then
        if rd_in (v28_5 + 2) Ln then
        if rd_in (v28_5 + 3) Ln then
        (f_W_remove v28_M (xs (v28_5 + 1).toNatClampNeg) (xs (v28_5 + 2).toNatClampNeg) (xs (v28_5 + 3).toNatClampNeg)).bind fun r53 =>
        if rd_in (v28_5 + 1) Ln then
        if rd_in (v28_5 + 2) Ln then
        if rd_in (v28_5 + 3) Ln then
        (f_N_remove (fun k => r53.2 (117 + k)) (xs (v28_5 + 1).toNatClampNeg) (xs (v28_5 + 2).toNatClampNeg) (xs (v28_5 + 3).toNatClampNeg)).bind fun r57 =>
        (f_N_thrown (fun k => (rd_pm 22 117 r53.2 r57.2) (117 + k))).bind fun r58 =>
        if r58 = r53.1 then
          if r53.1 = 0 then
            if (lg_cmp (((rd_pm 22 117 r53.2 r57.2) 139).2.1 0) r57.1.toInt64) = 0 then
              rec (v28_5 + 6) (rd_pm 22 117 r53.2 r57.2)
            else
              some 0
          else
            rec (v28_5 + 6) (rd_pm 22 117 r53.2 r57.2)
        else
          some 0
        else none
        else none
        else none
        else none
        else none
        else none
      else if ((xs (v28_5).toNatClampNeg) &&& 31) = 5 then
        if rd_in (v28_5 + 1) Ln then
        if rd_in (v28_5 + 2) Ln then
        if rd_in (v28_5 + 3) Ln then
        if rd_in (v28_5 + 4) Ln then
        if rd_in (v28_5 + 5) Ln then
        (f_W_create v28_M (xs (v28_5 + 1).toNatClampNeg) (xs (v28_5 + 2).toNatClampNeg) (xs (v28_5 + 3).toNatClampNeg) (xs (v28_5 + 4).toNatClampNeg) (xs (v28_5 + 5).toNatClampNeg)).bind fun r68 =>
        if rd_in (v28_5 + 1) Ln then
        if rd_in (v28_5 + 2) Ln then
        if rd_in (v28_5 + 3) Ln then
        if rd_in (v28_5 + 4) Ln then
        if rd_in (v28_5 + 5) Ln then
        (f_N_create (fun k => r68.2 (117 + k)) (xs (v28_5 + 1).toNatClampNeg) (xs (v28_5 + 2).toNatClampNeg) (xs (v28_5 + 3).toNatClampNeg) (xs (v28_5 + 4).toNatClampNeg) (xs (v28_5 + 5).toNatClampNeg)).bind fun r74 =>
        (f_N_thrown (fun k => (rd_pm 22 117 r68.2 r74.2) (117 + k))).bind fun r75 =>
        if r75 = r68.1 then
          if r68.1 = 0 then
            if (lg_cmp (((rd_pm 22 117 r68.2 r74.2) 139).2.1 0) r74.1.toInt64) = 0 then
              rec (v28_5 + 6) (rd_pm 22 117 r68.2 r74.2)
            else
              some 0
          else
            rec (v28_5 + 6) (rd_pm 22 117 r68.2 r74.2)
        else
          some 0
        else none
        else none
        else none
        else none
        else none
        else none
        else none
        else none
        else none
        else none
      else if ((xs (v28_5).toNatClampNeg) &&& 31) = 6 then
        if rd_in (v28_5 + 1) Ln then
        if rd_in (v28_5 + 2) Ln then
        if rd_in (v28_5 + 3) Ln then
        if rd_in (v28_5 + 4) Ln then
        if rd_in (v28_5 + 5) Ln then
        rd_k (if (xs (v28_5 + 5).toNatClampNeg) = 0 then 0 else 1 : Int32) fun z86 =>
        (f_W_change v28_M (xs (v28_5 + 1).toNatClampNeg) (xs (v28_5 + 2).toNatClampNeg) (xs (v28_5 + 3).toNatClampNeg) (xs (v28_5 + 4).toNatClampNeg) z86).bind fun r87 =>
        if rd_in (v28_5 + 1) Ln then
        if rd_in (v28_5 + 2) Ln then
        if rd_in (v28_5 + 3) Ln then
        if rd_in (v28_5 + 4) Ln then
        if rd_in (v28_5 + 5) Ln then
        rd_k (if (xs (v28_5 + 5).toNatClampNeg) = 0 then 0 else 1 : Int32) fun z94 =>
        (f_N_change (fun k => r87.2 (117 + k)) (xs (v28_5 + 1).toNatClampNeg) (xs (v28_5 + 2).toNatClampNeg) (xs (v28_5 + 3).toNatClampNeg) (xs (v28_5 + 4).toNatClampNeg) z94).bind fun r95 =>
        (f_N_thrown (fun k => (rd_pm 22 117 r87.2 r95.2) (117 + k))).bind fun r96 =>
        if r96 = r87.1 then
          if r87.1 = 0 then
            if (lg_cmp (((rd_pm 22 117 r87.2 r95.2) 139).2.1 0) r95.1.toInt64) = 0 then
              rec (v28_5 + 6) (rd_pm 22 117 r87.2 r95.2)
            else
              some 0
          else
            rec (v28_5 + 6) (rd_pm 22 117 r87.2 r95.2)
        else
          some 0
        else none
        else none
        else none
        else none
        else none
        else none
        else none
        else none
        else none
        else none
      else if ((xs (v28_5).toNatClampNeg) &&& 31) = 7 then
        if rd_in (v28_5 + 1) Ln then
        if rd_in (v28_5 + 2) Ln then
        if rd_in (v28_5 + 3) Ln then
        (f_W_lock v28_M (xs (v28_5 + 1).toNatClampNeg) (xs (v28_5 + 2).toNatClampNeg) (xs (v28_5 + 3).toNatClampNeg)).bind fun r104 =>
        if rd_in (v28_5 + 1) Ln then
        if rd_in (v28_5 + 2) Ln then
        if rd_in (v28_5 + 3) Ln then
        (f_N_lock (fun k => r104.2 (117 + k)) (xs (v28_5 + 1).toNatClampNeg) (xs (v28_5 + 2).toNatClampNeg) (xs (v28_5 + 3).toNatClampNeg)).bind fun r108 =>
        (f_N_thrown (fun k => (rd_pm 22 117 r104.2 r108.2) (117 + k))).bind fun r109 =>
        if r109 = r104.1 then
          if r104.1 = 0 then
            if (lg_cmp (((rd_pm 22 117 r104.2 r108.2) 139).2.1 0) r108.1.toInt64) = 0 then
              rec (v28_5 + 6) (rd_pm 22 117 r104.2 r108.2)
            else
              some 0
          else
            rec (v28_5 + 6) (rd_pm 22 117 r104.2 r108.2)
        else
          some 0
        else none
        else none
        else none
        else none
        else none
        else none
      else if ((xs (v28_5).toNatClampNeg) &&& 31) = 8 then
        if rd_in (v28_5 + 1) Ln then
        if rd_in (v28_5 + 2) Ln then
        if rd_in (v28_5 + 3) Ln then
        (f_W_renew v28_M (xs (v28_5 + 1).toNatClampNeg) (xs (v28_5 + 2).toNatClampNeg) (xs (v28_5 + 3).toNatClampNeg)).bind fun r117 =>
        if rd_in (v28_5 + 1) Ln then
        if rd_in (v28_5 + 2) Ln then
        if rd_in (v28_5 + 3) Ln then
        (f_N_renew (fun k => r117.2 (117 + k)) (xs (v28_5 + 1).toNatClampNeg) (xs (v28_5 + 2).toNatClampNeg) (xs (v28_5 + 3).toNatClampNeg)).bind fun r121 =>
        (f_N_thrown (fun k => (rd_pm 22 117 r117.2 r121.2) (117 + k))).bind fun r122 =>
        if r122 = r117.1 then
          if r117.1 = 0 then
            if (lg_cmp (((rd_pm 22 117 r117.2 r121.2) 139).2.1 0) r121.1.toInt64) = 0 then
              rec (v28_5 + 6) (rd_pm 22 117 r117.2 r121.2)
            else
              some 0
          else
            rec (v28_5 + 6) (rd_pm 22 117 r117.2 r121.2)
        else
          some 0
        else none
        else none
        else none
        else none
        else none
        else none
      else if ((xs (v28_5).toNatClampNeg) &&& 31) = 9 then
        if rd_in (v28_5 + 1) Ln then
        if rd_in (v28_5 + 2) Ln then
        (f_W_delete v28_M (xs (v28_5 + 1).toNatClampNeg) (xs (v28_5 + 2).toNatClampNeg)).bind fun r129 =>
        if rd_in (v28_5 + 1) Ln then
        if rd_in (v28_5 + 2) Ln then
        (f_N_delete (fun k => r129.2 (117 + k)) (xs (v28_5 + 1).toNatClampNeg) (xs (v28_5 + 2).toNatClampNeg)).bind fun r132 =>
        (f_N_thrown (fun k => (rd_pm 22 117 r129.2 r132.2) (117 + k))).bind fun r133 =>
        if r133 = r129.1 then
          if r129.1 = 0 then
            if (lg_cmp (((rd_pm 22 117 r129.2 r132.2) 139).2.1 0) r132.1.toInt64) = 0 then
              rec (v28_5 + 6) (rd_pm 22 117 r129.2 r132.2)
            else
              some 0
          else
            rec (v28_5 + 6) (rd_pm 22 117 r129.2 r132.2)
        else
          some 0
        else none
        else none
        else none
        else none
      else if ((xs (v28_5).toNatClampNeg) &&& 31) = 10 then
        if rd_in (v28_5 + 1) Ln then
        if rd_in (v28_5 + 2) Ln then
        (f_W_restore v28_M (xs (v28_5 + 1).toNatClampNeg) (xs (v28_5 + 2).toNatClampNeg)).bind fun r140 =>
        if rd_in (v28_5 + 1) Ln then
        if rd_in (v28_5 + 2) Ln then
        (f_N_restore (fun k => r140.2 (117 + k)) (xs (v28_5 + 1).toNatClampNeg) (xs (v28_5 + 2).toNatClampNeg)).bind fun r143 =>
        (f_N_thrown (fun k => (rd_pm 22 117 r140.2 r143.2) (117 + k))).bind fun r144 =>
        if r144 = r140.1 then
          if r140.1 = 0 then
            if (lg_cmp (((rd_pm 22 117 r140.2 r143.2) 139).2.1 0) r143.1.toInt64) = 0 then
              rec (v28_5 + 6) (rd_pm 22 117 r140.2 r143.2)
            else
              some 0
          else
            rec (v28_5 + 6) (rd_pm 22 117 r140.2 r143.2)
        else
          some 0
        else none
        else none
        else none
        else none
      else if ((xs (v28_5).toNatClampNeg) &&& 31) = 11 then
        if rd_in (v28_5 + 1) Ln then
        if rd_in (v28_5 + 2) Ln then
        if rd_in (v28_5 + 3) Ln then
        (f_W_ask v28_M (xs (v28_5 + 1).toNatClampNeg) (xs (v28_5 + 2).toNatClampNeg) (xs (v28_5 + 3).toNatClampNeg)).bind fun r152 =>
        if rd_in (v28_5 + 1) Ln then
        if rd_in (v28_5 + 2) Ln then
        if rd_in (v28_5 + 3) Ln then
        (f_N_ask (fun k => r152.2 (117 + k)) (xs (v28_5 + 1).toNatClampNeg) (xs (v28_5 + 2).toNatClampNeg) (xs (v28_5 + 3).toNatClampNeg)).bind fun r156 =>
        (f_N_thrown (fun k => (rd_pm 22 117 r152.2 r156.2) (117 + k))).bind fun r157 =>
        if r157 = r152.1 then
          if r152.1 = 0 then
            if (lg_cmp (((rd_pm 22 117 r152.2 r156.2) 139).2.1 0) r156.1.toInt64) = 0 then
              rec (v28_5 + 6) (rd_pm 22 117 r152.2 r156.2)
            else
              some 0
          else
            rec (v28_5 + 6) (rd_pm 22 117 r152.2 r156.2)
        else
          some 0
        else none
        else none
        else none
        else none
        else none
        else none
      else if ((xs (v28_5).toNatClampNeg) &&& 31) = 12 then
        if rd_in (v28_5 + 1) Ln then
        if rd_in (v28_5 + 2) Ln then
        if rd_in (v28_5 + 3) Ln then
        rd_k (if (xs (v28_5 + 3).toNatClampNeg) = 0 then 0 else 1 : Int32) fun z166 =>
        (f_W_answer v28_M (xs (v28_5 + 1).toNatClampNeg) (xs (v28_5 + 2).toNatClampNeg) z166).bind fun r167 =>
        if rd_in (v28_5 + 1) Ln then
        if rd_in (v28_5 + 2) Ln then
        if rd_in (v28_5 + 3) Ln then
        rd_k (if (xs (v28_5 + 3).toNatClampNeg) = 0 then 0 else 1 : Int32) fun z172 =>
        (f_N_answer (fun k => r167.2 (117 + k)) (xs (v28_5 + 1).toNatClampNeg) (xs (v28_5 + 2).toNatClampNeg) z172).bind fun r173 =>
        (f_N_thrown (fun k => (rd_pm 22 117 r167.2 r173.2) (117 + k))).bind fun r174 =>
        if r174 = r167.1 then
          if r167.1 = 0 then
            if (lg_cmp (((rd_pm 22 117 r167.2 r173.2) 139).2.1 0) r173.1.toInt64) = 0 then
              rec (v28_5 + 6) (rd_pm 22 117 r167.2 r173.2)
            else
              some 0
          else
            rec (v28_5 + 6) (rd_pm 22 117 r167.2 r173.2)
        else
          some 0
        else none
        else none
        else none
        else none
        else none
        else none
      else if ((xs (v28_5).toNatClampNeg) &&& 31) = 13 then
        if rd_in (v28_5 + 1) Ln then
        (f_W_pass v28_M (xs (v28_5 + 1).toNatClampNeg)).bind fun r180 =>
        if rd_in (v28_5 + 1) Ln then
        (f_N_pass (fun k => r180.2 (117 + k)) (xs (v28_5 + 1).toNatClampNeg)).bind fun r182 =>
        (f_N_thrown (fun k => (rd_pm 22 117 r180.2 r182.2) (117 + k))).bind fun r183 =>
        if r183 = r180.1 then
          if r180.1 = 0 then
            if (lg_cmp (((rd_pm 22 117 r180.2 r182.2) 139).2.1 0) r182.1.toInt64) = 0 then
              rec (v28_5 + 6) (rd_pm 22 117 r180.2 r182.2)
            else
              some 0
          else
            rec (v28_5 + 6) (rd_pm 22 117 r180.2 r182.2)
        else
          some 0
        else none
        else none
      else if ((xs (v28_5).toNatClampNeg) &&& 31) = 14 then
        if rd_in (v28_5 + 1) Ln then
        (f_W_message v28_M (xs (v28_5 + 1).toNatClampNeg)).bind fun r189 =>
        if rd_in (v28_5 + 1) Ln then
        (f_N_message (fun k => r189.2 (117 + k)) (xs (v28_5 + 1).toNatClampNeg)).bind fun r191 =>
        (f_N_thrown (fun k => (rd_pm 22 117 r189.2 r191.2) (117 + k))).bind fun r192 =>
        if r192 = r189.1 then
          if r189.1 = 0 then
            if (lg_cmp (((rd_pm 22 117 r189.2 r191.2) 139).2.1 0) r191.1.toInt64) = 0 then
              rec (v28_5 + 6) (rd_pm 22 117 r189.2 r191.2)
            else
              some 0
          else
            rec (v28_5 + 6) (rd_pm 22 117 r189.2 r191.2)
        else
          some 0
        else none
        else none
      else if ((xs (v28_5).toNatClampNeg) &&& 31) = 15 then
        if rd_in (v28_5 + 1) Ln then
        (f_W_acknowledge v28_M (xs (v28_5 + 1).toNatClampNeg)).bind fun r198 =>
        if rd_in (v28_5 + 1) Ln then
        (f_N_acknowledge (fun k => r198.2 (117 + k)) (xs (v28_5 + 1).toNatClampNeg)).bind fun r200 =>
        (f_N_thrown (fun k => (rd_pm 22 117 r198.2 r200.2) (117 + k))).bind fun r201 =>
        if r201 = r198.1 then
          if r198.1 = 0 then
            if (lg_cmp (((rd_pm 22 117 r198.2 r200.2) 139).2.1 0) r200.1.toInt64) = 0 then
              rec (v28_5 + 6) (rd_pm 22 117 r198.2 r200.2)
            else
              some 0
          else
            rec (v28_5 + 6) (rd_pm 22 117 r198.2 r200.2)
        else
          some 0
        else none
        else none
      else if ((xs (v28_5).toNatClampNeg) &&& 31) = 16 then
        if rd_in (v28_5 + 1) Ln then
        (f_W_balance v28_M (xs (v28_5 + 1).toNatClampNeg)).bind fun r207 =>
        if rd_in (v28_5 + 1) Ln then
        (f_N_balance (fun k => r207.2 (117 + k)) (xs (v28_5 + 1).toNatClampNeg)).bind fun r209 =>
        (f_N_thrown (fun k => (rd_pm 22 117 r207.2 r209.2) (117 + k))).bind fun r210 =>
        if r210 = r207.1 then
          if r207.1 = 0 then
            if (Op.cmpValue (FP.dcmp (((rd_pm 22 117 r207.2 r209.2) 140).2.2 0) r209.1) .l) = 0 then
              rec (v28_5 + 6) (rd_pm 22 117 r207.2 r209.2)
            else
              if (Op.cmpValue (FP.dcmp (((rd_pm 22 117 r207.2 r209.2) 140).2.2 0) (((rd_pm 22 117 r207.2 r209.2) 140).2.2 0)) .l) = 0 then
                some 0
              else
                if (Op.cmpValue (FP.dcmp r209.1 r209.1) .l) = 0 then
                  some 0
                else
                  rec (v28_5 + 6) (rd_pm 22 117 r207.2 r209.2)
          else
            rec (v28_5 + 6) (rd_pm 22 117 r207.2 r209.2)
        else
          some 0
        else none
        else none
      else if ((xs (v28_5).toNatClampNeg) &&& 31) = 17 then
        if rd_in (v28_5 + 1) Ln then
        if rd_in (v28_5 + 2) Ln then
        (f_W_paid v28_M (xs (v28_5 + 1).toNatClampNeg) (xs (v28_5 + 2).toNatClampNeg)).bind fun r219 =>
        if rd_in (v28_5 + 1) Ln then
        if rd_in (v28_5 + 2) Ln then
        (f_N_paid (fun k => r219.2 (117 + k)) (xs (v28_5 + 1).toNatClampNeg) (xs (v28_5 + 2).toNatClampNeg)).bind fun r222 =>
        (f_N_thrown (fun k => (rd_pm 22 117 r219.2 r222.2) (117 + k))).bind fun r223 =>
        if r223 = r219.1 then
          if r219.1 = 0 then
            if (Op.cmpValue (FP.dcmp (((rd_pm 22 117 r219.2 r222.2) 140).2.2 0) r222.1) .l) = 0 then
              rec (v28_5 + 6) (rd_pm 22 117 r219.2 r222.2)
            else
              if (Op.cmpValue (FP.dcmp (((rd_pm 22 117 r219.2 r222.2) 140).2.2 0) (((rd_pm 22 117 r219.2 r222.2) 140).2.2 0)) .l) = 0 then
                some 0
              else
                if (Op.cmpValue (FP.dcmp r222.1 r222.1) .l) = 0 then
                  some 0
                else
                  rec (v28_5 + 6) (rd_pm 22 117 r219.2 r222.2)
          else
            rec (v28_5 + 6) (rd_pm 22 117 r219.2 r222.2)
        else
          some 0
        else none
        else none
        else none
        else none
      else if ((xs (v28_5).toNatClampNeg) &&& 31) = 18 then
        if rd_in (v28_5 + 1) Ln then
        if rd_in (v28_5 + 2) Ln then
        (f_W_domain v28_M (xs (v28_5 + 1).toNatClampNeg) (xs (v28_5 + 2).toNatClampNeg)).bind fun r232 =>
        if rd_in (v28_5 + 1) Ln then
        if rd_in (v28_5 + 2) Ln then
        (f_N_domain (fun k => r232.2 (117 + k)) (xs (v28_5 + 1).toNatClampNeg) (xs (v28_5 + 2).toNatClampNeg)).bind fun r235 =>
        (f_N_thrown (fun k => (rd_pm 22 117 r232.2 r235.2) (117 + k))).bind fun r236 =>
        if r236 = r232.1 then
          if r232.1 = 0 then
            if (lg_cmp (((rd_pm 22 117 r232.2 r235.2) 139).2.1 0) r235.1.toInt64) = 0 then
              rec (v28_5 + 6) (rd_pm 22 117 r232.2 r235.2)
            else
              some 0
          else
            rec (v28_5 + 6) (rd_pm 22 117 r232.2 r235.2)
        else
          some 0
        else none
        else none
        else none
        else none
      else if ((xs (v28_5).toNatClampNeg) &&& 31) = 19 then
        if rd_in (v28_5 + 1) Ln then
        if rd_in (v28_5 + 2) Ln then
        (f_W_thing v28_M (xs (v28_5 + 1).toNatClampNeg) (xs (v28_5 + 2).toNatClampNeg)).bind fun r243 =>
        if rd_in (v28_5 + 1) Ln then
        if rd_in (v28_5 + 2) Ln then
        (f_N_thing (fun k => r243.2 (117 + k)) (xs (v28_5 + 1).toNatClampNeg) (xs (v28_5 + 2).toNatClampNeg)).bind fun r246 =>
        (f_N_thrown (fun k => (rd_pm 22 117 r243.2 r246.2) (117 + k))).bind fun r247 =>
        if r247 = r243.1 then
          if r243.1 = 0 then
            if (lg_cmp (((rd_pm 22 117 r243.2 r246.2) 139).2.1 0) r246.1.toInt64) = 0 then
              rec (v28_5 + 6) (rd_pm 22 117 r243.2 r246.2)
            else
              some 0
          else
            rec (v28_5 + 6) (rd_pm 22 117 r243.2 r246.2)
        else
          some 0
        else none
        else none
        else none
        else none
      else if ((xs (v28_5).toNatClampNeg) &&& 31) = 20 then
        if rd_in (v28_5 + 1) Ln then
        (f_W_zone v28_M (xs (v28_5 + 1).toNatClampNeg)).bind fun r253 =>
        if rd_in (v28_5 + 1) Ln then
        (f_N_zone (fun k => r253.2 (117 + k)) (xs (v28_5 + 1).toNatClampNeg)).bind fun r255 =>
        (f_N_thrown (fun k => (rd_pm 22 117 r253.2 r255.2) (117 + k))).bind fun r256 =>
        if r256 = r253.1 then
          if r253.1 = 0 then
            if (lg_cmp (((rd_pm 22 117 r253.2 r255.2) 139).2.1 0) r255.1.toInt64) = 0 then
              rec (v28_5 + 6) (rd_pm 22 117 r253.2 r255.2)
            else
              some 0
          else
            rec (v28_5 + 6) (rd_pm 22 117 r253.2 r255.2)
        else
          some 0
        else none
        else none
      else if ((xs (v28_5).toNatClampNeg) &&& 31) = 21 then
        if rd_in (v28_5 + 1) Ln then
        (f_K_count (fun k => v28_M (0 + k)) (xs (v28_5 + 1).toNatClampNeg)).bind fun r262 =>
        if rd_in (v28_5 + 1) Ln then
        (f_N_count (fun k => v28_M (117 + k)) (xs (v28_5 + 1).toNatClampNeg)).bind fun r264 =>
        if r262 = r264.1 then
          rec (v28_5 + 6) (rd_pm 22 117 v28_M r264.2)
        else
          some 0
        else none
        else none
      else
        rec (v28_5 + 6) v28_M
      else none
def lf_W_law (xs : Nat → Int32) (Ln : Nat) : Nat → Int32 → rd_M → Option Int32 := rd_it (fun _ _ => none) (lb_W_law xs Ln)
set_option maxRecDepth 100000 in
set_option maxHeartbeats 40000000 in
theorem lw_loop {p : Program} {l : Launch} {e : Env} {s : State} {m : MethodId} {below : List Frame} {meth : Method} {c : Code} {D : va_G} {Ka : Nat → ClassId} {ad : Nat → Nat} {b Ln : Nat} {xs : Nat → Int32} (hls : l.stackTraces = false) (C9 : rd_C p c code 9 s m #[Value.ref b] "RegistryDeskLaw" rd_T D rd_cl (rd_ty Ka) (lw_L Ka) ad (fun q => s.heap.size ≤ q)) (hlk : meth.locks = false) (hret : meth.sig.returnType = ret) (hTh : rd_Th rd_ss (fun q => s.heap.size ≤ q) s s.heap) (hX : va_X b Ln xs s s.heap) (hbl : b < s.heap.size) :
    ∀ (fu : Nat) (v28_5 : Int32) (v28_M : rd_M) (H : Heap) (locs : List Loc) (ls : Array Slot) (cells slots : Nat), lf_W_law xs Ln fu v28_5 v28_M = some 1 → cells + 64 * fu ≤ 655733 → slots + 512 * fu ≤ 7128906 → rd_W D rd_cl (lw_L Ka) ad (fun q => s.heap.size ≤ q) s.heap v28_M H locs → lv_has ls 9 [(5, .int v28_5), (4, .ref (ad 140)), (3, .ref (ad 139)), (2, .ref (ad 117)), (1, .ref (ad 0)), (0, .ref b)] → W p l e room_1 s m #[Value.ref b] below meth c H locs cells slots (lw_Z below #[Value.ref b] s) (F0 m 28 ls []) := by
  have hx := C9.1.1
  have hb := C9.1.2.1
  have hbA : ¬ (fun q => s.heap.size ≤ q) b := fun h => Nat.not_le.mpr hbl h
  intro fu
  induction fu with
  | zero => intro _ _ H locs ls cells slots hf; exact (rd_nf hf).elim
  | succ fu ih_28 =>
    intro v28_5 v28_M H locs ls cells slots hf hc9 hs9 hW hl
    unfold lf_W_law at hf ih_28
    rw [rd_it_s] at hf
    unfold lb_W_law at hf
    refine lv_iload hx hb d_W_law_28 (lv_at hl 0 rfl) ?_
    refine lv_aload_n hx hb d_W_law_30 rfl (lv_at hl 5 rfl) ?_
    refine va_slen hx hb hX hbl hbA hW.2 d_W_law_31 ?_
    refine lv_bipush (v := 6) hx hb d_W_law_32 (by decide) ?_
    refine lv_isub hx hb d_W_law_34 ?_
    refine lv_icmp_gt (tgt := 1794) hx hb d_W_law_35 (by decide) (fun c1 => ?_) (fun c1 => ?_)
    · have hf := rd_t hf c1
      refine lv_iconst (v := 1) hx hb d_W_law_1794 (by decide) ?_
      refine va_forget (fun q hq => hW.2.2.2 q hq) ?_
      refine W.widen (show cells ≤ 655733 by omega) (show slots ≤ 7128906 by omega) ?_
      exact lw_ret hx hb hret hlk d_W_law_1795
    · have hf := rd_f hf c1
      refine lv_aload_n hx hb d_W_law_38 rfl (lv_at hl 5 rfl) ?_
      refine lv_iload hx hb d_W_law_39 (lv_at hl 0 rfl) ?_
      obtain ⟨g2, hf⟩ := rd_g hf
      refine va_sld hx hb hX hbl hbA hW.2 g2 d_W_law_41 ?_
      refine lv_bipush (v := 31) hx hb d_W_law_42 (by decide) ?_
      refine lv_iand hx hb d_W_law_44 ?_
      by_cases c3 : ((xs (v28_5).toNatClampNeg) &&& 31) = 0
      · have hf := rd_t hf c3
        refine lv_tableIn (off := 103) (tgt := 148) hx hb d_W_law_45 (by rw [c3]; decide) (by rw [c3]; decide) (by rw [c3]; rfl) (by decide) ?_
        refine lv_aload_n hx hb d_W_law_148 rfl (lv_at hl 4 rfl) ?_
        refine lv_aload_n hx hb d_W_law_149 rfl (lv_at hl 5 rfl) ?_
        refine lv_iload hx hb d_W_law_150 (lv_at hl 0 rfl) ?_
        refine lv_iconst (v := 1) hx hb d_W_law_152 (by decide) ?_
        refine lv_iadd hx hb d_W_law_153 ?_
        obtain ⟨g4, hf⟩ := rd_g hf
        refine va_sld hx hb hX hbl hbA hW.2 g4 d_W_law_154 ?_
        refine lv_aload_n hx hb d_W_law_155 rfl (lv_at hl 5 rfl) ?_
        refine lv_iload hx hb d_W_law_156 (lv_at hl 0 rfl) ?_
        refine lv_iconst (v := 2) hx hb d_W_law_158 (by decide) ?_
        refine lv_iadd hx hb d_W_law_159 ?_
        obtain ⟨g5, hf⟩ := rd_g hf
        refine va_sld hx hb hX hbl hbA hW.2 g5 d_W_law_160 ?_
        refine lv_i2d hx hb d_W_law_161 ?_
        refine rd_ldcD C9 l_W_94 d_W_law_162 ?_
        obtain ⟨g_165, hf⟩ := rd_g hf
        refine lv_dmul hx hb d_W_law_165 g_165 ?_
        refine lv_aload_n hx hb d_W_law_166 rfl (lv_at hl 2 rfl) ?_
        obtain ⟨r6, qr6, hf⟩ := rd_bind hf
        refine rd_callSW (As := [.ref (ad 0), .int (xs (v28_5 + 1).toNatClampNeg), .double (FP.dmul (FP.i2d (xs (v28_5 + 2).toNatClampNeg)) 4593671619917905920), .ref (ad 139)]) (rest := []) rd_gd C9 hTh hW (c_W_price hls (xs (v28_5 + 1).toNatClampNeg) (FP.dmul (FP.i2d (xs (v28_5 + 2).toNatClampNeg)) 4593671619917905920) qr6) kc_W_price ki_W_price l_W_96 rfl ⟨Nat.le_of_ble_eq_true rfl, Nat.le_of_ble_eq_true rfl⟩ ⟨by show cells + 2 ≤ 655733; omega, by show slots + 12 ≤ 7128906; omega⟩ hl.1 rfl (Nat.le_of_ble_eq_true rfl) d_W_law_167 (fun E _ _ _ _ hex => hex.elim) (fun rr MM H locs hp hW => ?_)
        obtain ⟨rfl, rfl⟩ := hp
        refine lv_istore (lv' := [(6, .int r6.1), (5, .int v28_5), (4, .ref (ad 140)), (3, .ref (ad 139)), (2, .ref (ad 117)), (1, .ref (ad 0)), (0, .ref b)]) hx hb d_W_law_170 hl (by decide) rfl (fun ls hl => ?_)
        refine lv_aload_n hx hb d_W_law_172 rfl (lv_at hl 4 rfl) ?_
        refine lv_aload_n hx hb d_W_law_173 rfl (lv_at hl 6 rfl) ?_
        refine lv_iload hx hb d_W_law_174 (lv_at hl 1 rfl) ?_
        refine lv_iconst (v := 1) hx hb d_W_law_176 (by decide) ?_
        refine lv_iadd hx hb d_W_law_177 ?_
        obtain ⟨g7, hf⟩ := rd_g hf
        refine va_sld hx hb hX hbl hbA hW.2 g7 d_W_law_178 ?_
        refine lv_aload_n hx hb d_W_law_179 rfl (lv_at hl 6 rfl) ?_
        refine lv_iload hx hb d_W_law_180 (lv_at hl 1 rfl) ?_
        refine lv_iconst (v := 2) hx hb d_W_law_182 (by decide) ?_
        refine lv_iadd hx hb d_W_law_183 ?_
        obtain ⟨g8, hf⟩ := rd_g hf
        refine va_sld hx hb hX hbl hbA hW.2 g8 d_W_law_184 ?_
        refine lv_i2d hx hb d_W_law_185 ?_
        refine rd_ldcD C9 l_W_94 d_W_law_186 ?_
        obtain ⟨g_189, hf⟩ := rd_g hf
        refine lv_dmul hx hb d_W_law_189 g_189 ?_
        obtain ⟨r9, qr9, hf⟩ := rd_bind hf
        refine rd_callVS (k := 0) (As := [.int (xs (v28_5 + 1).toNatClampNeg), .double (FP.dmul (FP.i2d (xs (v28_5 + 2).toNatClampNeg)) 4593671619917905920)]) (rest := []) lw_EN rd_gd C9 hTh hW (c_N_price hls (xs (v28_5 + 1).toNatClampNeg) (FP.dmul (FP.i2d (xs (v28_5 + 2).toNatClampNeg)) 4593671619917905920) qr9) kc_N_price ki_N_price ks_N_price l_W_101 rfl lt_N ce_N rfl ⟨Nat.le_of_ble_eq_true rfl, Nat.le_of_ble_eq_true rfl⟩ ⟨by show cells + 2 + 0 ≤ 655733; omega, by show slots + 12 + 0 ≤ 7128906; omega⟩ hl.1 rfl (Nat.le_of_ble_eq_true rfl) d_W_law_190 (fun E _ _ _ _ hex => hex.elim) (fun rr MM H locs hp hW => ?_)
        obtain ⟨rfl, rfl⟩ := hp
        have hW : rd_W D rd_cl (lw_L Ka) ad (fun q => s.heap.size ≤ q) s.heap (rd_pm 22 117 r6.2 r9.2) H locs := hW
        refine lv_istore (lv' := [(7, .int r9.1), (6, .int r6.1), (5, .int v28_5), (4, .ref (ad 140)), (3, .ref (ad 139)), (2, .ref (ad 117)), (1, .ref (ad 0)), (0, .ref b)]) hx hb d_W_law_193 hl (by decide) rfl (fun ls hl => ?_)
        refine lv_aload_n hx hb d_W_law_195 rfl (lv_at hl 5 rfl) ?_
        obtain ⟨r10, qr10, hf⟩ := rd_bind hf
        refine rd_callVS (k := 0) (As := []) (rest := []) lw_EN rd_gd C9 hTh hW (c_N_thrown hls qr10) kc_N_thrown ki_N_thrown ks_N_thrown l_W_102 rfl lt_N ce_N rfl ⟨Nat.le_of_ble_eq_true rfl, Nat.le_of_ble_eq_true rfl⟩ ⟨by show cells + 2 + 0 + 0 ≤ 655733; omega, by show slots + 12 + 0 + 0 ≤ 7128906; omega⟩ hl.1 rfl (Nat.le_of_ble_eq_true rfl) d_W_law_196 (fun E _ _ _ _ hex => hex.elim) (fun rr MM H locs hp hW => ?_)
        obtain ⟨rfl, rfl⟩ := hp
        rw [rd_pm_self] at hW
        refine lv_iload hx hb d_W_law_199 (lv_at hl 1 rfl) ?_
        refine lv_icmp_eq (tgt := 206) hx hb d_W_law_201 (by decide) (fun c11 => ?_) (fun c11 => ?_)
        · have hf := rd_t hf c11
          refine lv_iload hx hb d_W_law_206 (lv_at hl 1 rfl) ?_
          refine lv_if_ne (tgt := 223) hx hb d_W_law_208 (by decide) (fun c12 => ?_) (fun c12 => ?_)
          · have hf := rd_f hf c12
            refine lv_goto (tgt := 1788) hx hb d_W_law_223 (by decide) ?_
            refine lv_iinc (v := v28_5 + 6) (lv' := [(5, .int (v28_5 + 6)), (7, .int r9.1), (6, .int r6.1), (4, .ref (ad 140)), (3, .ref (ad 139)), (2, .ref (ad 117)), (1, .ref (ad 0)), (0, .ref b)]) hx hb d_W_law_1788 hl (k := 2) rfl rfl (by decide) rfl (fun ls hl => ?_)
            refine lv_goto (tgt := 28) hx hb d_W_law_1791 (by decide) ?_
            exact ih_28 _ _ _ _ _ _ _ hf (by show cells + 2 + 0 + 0 + 64 * fu ≤ 655733; omega) (by show slots + 12 + 0 + 0 + 512 * fu ≤ 7128906; omega) hW (lv_sub hl [0, 3, 4, 5, 6, 7] rfl)
          · have hf := rd_t hf c12
            refine lv_aload_n hx hb d_W_law_211 rfl (lv_at hl 4 rfl) ?_
            refine lv_iconst (v := 0) hx hb d_W_law_212 (by decide) ?_
            refine al_out C9 hW (i := 0) (by decide) (show rd_in 0 1 by decide) d_W_law_213 ?_
            refine lv_iload hx hb d_W_law_214 (lv_at hl 0 rfl) ?_
            refine lv_i2l hx hb d_W_law_216 rfl ?_
            refine W.lcmp hx hb d_W_law_217 ?_
            refine lv_if_eq (tgt := 223) hx hb d_W_law_218 (by decide) (fun c13 => ?_) (fun c13 => ?_)
            · have hf := rd_t hf c13
              refine lv_goto (tgt := 1788) hx hb d_W_law_223 (by decide) ?_
              refine lv_iinc (v := v28_5 + 6) (lv' := [(5, .int (v28_5 + 6)), (7, .int r9.1), (6, .int r6.1), (4, .ref (ad 140)), (3, .ref (ad 139)), (2, .ref (ad 117)), (1, .ref (ad 0)), (0, .ref b)]) hx hb d_W_law_1788 hl (k := 2) rfl rfl (by decide) rfl (fun ls hl => ?_)
              refine lv_goto (tgt := 28) hx hb d_W_law_1791 (by decide) ?_
              exact ih_28 _ _ _ _ _ _ _ hf (by show cells + 2 + 0 + 0 + 64 * fu ≤ 655733; omega) (by show slots + 12 + 0 + 0 + 512 * fu ≤ 7128906; omega) hW (lv_sub hl [0, 3, 4, 5, 6, 7] rfl)
            · have hf := rd_f hf c13
              refine lv_iconst (v := 0) hx hb d_W_law_221 (by decide) ?_
              exact absurd (Option.some.inj hf) (by decide)
        · have hf := rd_f hf c11
          refine lv_iconst (v := 0) hx hb d_W_law_204 (by decide) ?_
          exact absurd (Option.some.inj hf) (by decide)
      have hf := rd_f hf c3
      by_cases c14 : ((xs (v28_5).toNatClampNeg) &&& 31) = 1
      · have hf := rd_t hf c14
        refine lv_tableIn (off := 181) (tgt := 226) hx hb d_W_law_45 (by rw [c14]; decide) (by rw [c14]; decide) (by rw [c14]; rfl) (by decide) ?_
        refine lv_aload_n hx hb d_W_law_226 rfl (lv_at hl 4 rfl) ?_
        refine lv_aload_n hx hb d_W_law_227 rfl (lv_at hl 5 rfl) ?_
        refine lv_iload hx hb d_W_law_228 (lv_at hl 0 rfl) ?_
        refine lv_iconst (v := 1) hx hb d_W_law_230 (by decide) ?_
        refine lv_iadd hx hb d_W_law_231 ?_
        obtain ⟨g15, hf⟩ := rd_g hf
        refine va_sld hx hb hX hbl hbA hW.2 g15 d_W_law_232 ?_
        refine lv_aload_n hx hb d_W_law_233 rfl (lv_at hl 5 rfl) ?_
        refine lv_iload hx hb d_W_law_234 (lv_at hl 0 rfl) ?_
        refine lv_iconst (v := 2) hx hb d_W_law_236 (by decide) ?_
        refine lv_iadd hx hb d_W_law_237 ?_
        obtain ⟨g16, hf⟩ := rd_g hf
        refine va_sld hx hb hX hbl hbA hW.2 g16 d_W_law_238 ?_
        refine lv_i2d hx hb d_W_law_239 ?_
        refine rd_ldcD C9 l_W_94 d_W_law_240 ?_
        obtain ⟨g_243, hf⟩ := rd_g hf
        refine lv_dmul hx hb d_W_law_243 g_243 ?_
        refine lv_aload hx hb d_W_law_244 (lv_at hl 1 rfl) ?_
        obtain ⟨r17, qr17, hf⟩ := rd_bind hf
        refine rd_callSW (As := [.ref (ad 0), .int (xs (v28_5 + 1).toNatClampNeg), .double (FP.dmul (FP.i2d (xs (v28_5 + 2).toNatClampNeg)) 4593671619917905920), .ref (ad 140)]) (rest := []) rd_gd C9 hTh hW (c_W_deposit hls (xs (v28_5 + 1).toNatClampNeg) (FP.dmul (FP.i2d (xs (v28_5 + 2).toNatClampNeg)) 4593671619917905920) qr17) kc_W_deposit ki_W_deposit l_W_106 rfl ⟨Nat.le_of_ble_eq_true rfl, Nat.le_of_ble_eq_true rfl⟩ ⟨by show cells + 3 ≤ 655733; omega, by show slots + 18 ≤ 7128906; omega⟩ hl.1 rfl (Nat.le_of_ble_eq_true rfl) d_W_law_246 (fun E _ _ _ _ hex => hex.elim) (fun rr MM H locs hp hW => ?_)
        obtain ⟨rfl, rfl⟩ := hp
        refine lv_istore (lv' := [(6, .int r17.1), (5, .int v28_5), (4, .ref (ad 140)), (3, .ref (ad 139)), (2, .ref (ad 117)), (1, .ref (ad 0)), (0, .ref b)]) hx hb d_W_law_249 hl (by decide) rfl (fun ls hl => ?_)
        refine lv_aload_n hx hb d_W_law_251 rfl (lv_at hl 4 rfl) ?_
        refine lv_aload_n hx hb d_W_law_252 rfl (lv_at hl 6 rfl) ?_
        refine lv_iload hx hb d_W_law_253 (lv_at hl 1 rfl) ?_
        refine lv_iconst (v := 1) hx hb d_W_law_255 (by decide) ?_
        refine lv_iadd hx hb d_W_law_256 ?_
        obtain ⟨g18, hf⟩ := rd_g hf
        refine va_sld hx hb hX hbl hbA hW.2 g18 d_W_law_257 ?_
        refine lv_aload_n hx hb d_W_law_258 rfl (lv_at hl 6 rfl) ?_
        refine lv_iload hx hb d_W_law_259 (lv_at hl 1 rfl) ?_
        refine lv_iconst (v := 2) hx hb d_W_law_261 (by decide) ?_
        refine lv_iadd hx hb d_W_law_262 ?_
        obtain ⟨g19, hf⟩ := rd_g hf
        refine va_sld hx hb hX hbl hbA hW.2 g19 d_W_law_263 ?_
        refine lv_i2d hx hb d_W_law_264 ?_
        refine rd_ldcD C9 l_W_94 d_W_law_265 ?_
        obtain ⟨g_268, hf⟩ := rd_g hf
        refine lv_dmul hx hb d_W_law_268 g_268 ?_
        obtain ⟨r20, qr20, hf⟩ := rd_bind hf
        refine rd_callVS (k := 0) (As := [.int (xs (v28_5 + 1).toNatClampNeg), .double (FP.dmul (FP.i2d (xs (v28_5 + 2).toNatClampNeg)) 4593671619917905920)]) (rest := []) lw_EN rd_gd C9 hTh hW (c_N_deposit hls (xs (v28_5 + 1).toNatClampNeg) (FP.dmul (FP.i2d (xs (v28_5 + 2).toNatClampNeg)) 4593671619917905920) qr20) kc_N_deposit ki_N_deposit ks_N_deposit l_W_109 rfl lt_N ce_N rfl ⟨Nat.le_of_ble_eq_true rfl, Nat.le_of_ble_eq_true rfl⟩ ⟨by show cells + 3 + 0 ≤ 655733; omega, by show slots + 18 + 0 ≤ 7128906; omega⟩ hl.1 rfl (Nat.le_of_ble_eq_true rfl) d_W_law_269 (fun E _ _ _ _ hex => hex.elim) (fun rr MM H locs hp hW => ?_)
        obtain ⟨rfl, rfl⟩ := hp
        have hW : rd_W D rd_cl (lw_L Ka) ad (fun q => s.heap.size ≤ q) s.heap (rd_pm 22 117 r17.2 r20.2) H locs := hW
        refine lv_dstore (lv' := [(7, .double r20.1), (6, .int r17.1), (5, .int v28_5), (4, .ref (ad 140)), (3, .ref (ad 139)), (2, .ref (ad 117)), (1, .ref (ad 0)), (0, .ref b)]) hx hb d_W_law_272 hl (by decide) rfl (fun ls hl => ?_)
        refine lv_aload_n hx hb d_W_law_274 rfl (lv_at hl 5 rfl) ?_
        obtain ⟨r21, qr21, hf⟩ := rd_bind hf
        refine rd_callVS (k := 0) (As := []) (rest := []) lw_EN rd_gd C9 hTh hW (c_N_thrown hls qr21) kc_N_thrown ki_N_thrown ks_N_thrown l_W_102 rfl lt_N ce_N rfl ⟨Nat.le_of_ble_eq_true rfl, Nat.le_of_ble_eq_true rfl⟩ ⟨by show cells + 3 + 0 + 0 ≤ 655733; omega, by show slots + 18 + 0 + 0 ≤ 7128906; omega⟩ hl.1 rfl (Nat.le_of_ble_eq_true rfl) d_W_law_275 (fun E _ _ _ _ hex => hex.elim) (fun rr MM H locs hp hW => ?_)
        obtain ⟨rfl, rfl⟩ := hp
        rw [rd_pm_self] at hW
        refine lv_iload hx hb d_W_law_278 (lv_at hl 1 rfl) ?_
        refine lv_icmp_eq (tgt := 285) hx hb d_W_law_280 (by decide) (fun c22 => ?_) (fun c22 => ?_)
        · have hf := rd_t hf c22
          refine lv_iload hx hb d_W_law_285 (lv_at hl 1 rfl) ?_
          refine lv_if_ne (tgt := 322) hx hb d_W_law_287 (by decide) (fun c23 => ?_) (fun c23 => ?_)
          · have hf := rd_f hf c23
            refine lv_goto (tgt := 1788) hx hb d_W_law_322 (by decide) ?_
            refine lv_iinc (v := v28_5 + 6) (lv' := [(5, .int (v28_5 + 6)), (7, .double r20.1), (6, .int r17.1), (4, .ref (ad 140)), (3, .ref (ad 139)), (2, .ref (ad 117)), (1, .ref (ad 0)), (0, .ref b)]) hx hb d_W_law_1788 hl (k := 2) rfl rfl (by decide) rfl (fun ls hl => ?_)
            refine lv_goto (tgt := 28) hx hb d_W_law_1791 (by decide) ?_
            exact ih_28 _ _ _ _ _ _ _ hf (by show cells + 3 + 0 + 0 + 64 * fu ≤ 655733; omega) (by show slots + 18 + 0 + 0 + 512 * fu ≤ 7128906; omega) hW (lv_sub hl [0, 3, 4, 5, 6, 7] rfl)
          · have hf := rd_t hf c23
            refine lv_aload hx hb d_W_law_290 (lv_at hl 3 rfl) ?_
            refine lv_iconst (v := 0) hx hb d_W_law_292 (by decide) ?_
            refine al_outD C9 hW (i := 0) (by decide) (show rd_in 0 1 by decide) d_W_law_293 ?_
            refine lv_dload hx hb d_W_law_294 (lv_at hl 0 rfl) ?_
            refine lv_dcmp hx hb d_W_law_296 ?_
            refine lv_if_eq (tgt := 322) hx hb d_W_law_297 (by decide) (fun c24 => ?_) (fun c24 => ?_)
            · have hf := rd_t hf c24
              refine lv_goto (tgt := 1788) hx hb d_W_law_322 (by decide) ?_
              refine lv_iinc (v := v28_5 + 6) (lv' := [(5, .int (v28_5 + 6)), (7, .double r20.1), (6, .int r17.1), (4, .ref (ad 140)), (3, .ref (ad 139)), (2, .ref (ad 117)), (1, .ref (ad 0)), (0, .ref b)]) hx hb d_W_law_1788 hl (k := 2) rfl rfl (by decide) rfl (fun ls hl => ?_)
              refine lv_goto (tgt := 28) hx hb d_W_law_1791 (by decide) ?_
              exact ih_28 _ _ _ _ _ _ _ hf (by show cells + 3 + 0 + 0 + 64 * fu ≤ 655733; omega) (by show slots + 18 + 0 + 0 + 512 * fu ≤ 7128906; omega) hW (lv_sub hl [0, 3, 4, 5, 6, 7] rfl)
            · have hf := rd_f hf c24
              refine lv_aload hx hb d_W_law_300 (lv_at hl 3 rfl) ?_
              refine lv_iconst (v := 0) hx hb d_W_law_302 (by decide) ?_
              refine al_outD C9 hW (i := 0) (by decide) (show rd_in 0 1 by decide) d_W_law_303 ?_
              refine lv_aload hx hb d_W_law_304 (lv_at hl 3 rfl) ?_
              refine lv_iconst (v := 0) hx hb d_W_law_306 (by decide) ?_
              refine al_outD C9 hW (i := 0) (by decide) (show rd_in 0 1 by decide) d_W_law_307 ?_
              refine lv_dcmp hx hb d_W_law_308 ?_
              refine lv_if_eq (tgt := 320) hx hb d_W_law_309 (by decide) (fun c25 => ?_) (fun c25 => ?_)
              · have hf := rd_t hf c25
                refine lv_iconst (v := 0) hx hb d_W_law_320 (by decide) ?_
                exact absurd (Option.some.inj hf) (by decide)
              · have hf := rd_f hf c25
                refine lv_dload hx hb d_W_law_312 (lv_at hl 0 rfl) ?_
                refine lv_dload hx hb d_W_law_314 (lv_at hl 0 rfl) ?_
                refine lv_dcmp hx hb d_W_law_316 ?_
                refine lv_if_ne (tgt := 322) hx hb d_W_law_317 (by decide) (fun c26 => ?_) (fun c26 => ?_)
                · have hf := rd_f hf c26
                  refine lv_goto (tgt := 1788) hx hb d_W_law_322 (by decide) ?_
                  refine lv_iinc (v := v28_5 + 6) (lv' := [(5, .int (v28_5 + 6)), (7, .double r20.1), (6, .int r17.1), (4, .ref (ad 140)), (3, .ref (ad 139)), (2, .ref (ad 117)), (1, .ref (ad 0)), (0, .ref b)]) hx hb d_W_law_1788 hl (k := 2) rfl rfl (by decide) rfl (fun ls hl => ?_)
                  refine lv_goto (tgt := 28) hx hb d_W_law_1791 (by decide) ?_
                  exact ih_28 _ _ _ _ _ _ _ hf (by show cells + 3 + 0 + 0 + 64 * fu ≤ 655733; omega) (by show slots + 18 + 0 + 0 + 512 * fu ≤ 7128906; omega) hW (lv_sub hl [0, 3, 4, 5, 6, 7] rfl)
                · have hf := rd_t hf c26
                  refine lv_iconst (v := 0) hx hb d_W_law_320 (by decide) ?_
                  exact absurd (Option.some.inj hf) (by decide)
        · have hf := rd_f hf c22
          refine lv_iconst (v := 0) hx hb d_W_law_283 (by decide) ?_
          exact absurd (Option.some.inj hf) (by decide)
      have hf := rd_f hf c14
      by_cases c27 : ((xs (v28_5).toNatClampNeg) &&& 31) = 2
      · have hf := rd_t hf c27
        refine lv_tableIn (off := 280) (tgt := 325) hx hb d_W_law_45 (by rw [c27]; decide) (by rw [c27]; decide) (by rw [c27]; rfl) (by decide) ?_
        refine lv_aload_n hx hb d_W_law_325 rfl (lv_at hl 4 rfl) ?_
        refine lv_aload_n hx hb d_W_law_326 rfl (lv_at hl 5 rfl) ?_
        refine lv_iload hx hb d_W_law_327 (lv_at hl 0 rfl) ?_
        refine lv_iconst (v := 1) hx hb d_W_law_329 (by decide) ?_
        refine lv_iadd hx hb d_W_law_330 ?_
        obtain ⟨g28, hf⟩ := rd_g hf
        refine va_sld hx hb hX hbl hbA hW.2 g28 d_W_law_331 ?_
        refine lv_aload_n hx hb d_W_law_332 rfl (lv_at hl 2 rfl) ?_
        obtain ⟨r29, qr29, hf⟩ := rd_bind hf
        refine rd_callSW (As := [.ref (ad 0), .int (xs (v28_5 + 1).toNatClampNeg), .ref (ad 139)]) (rest := []) rd_gd C9 hTh hW (c_W_contact hls (xs (v28_5 + 1).toNatClampNeg) qr29) kc_W_contact ki_W_contact l_W_110 rfl ⟨Nat.le_of_ble_eq_true rfl, Nat.le_of_ble_eq_true rfl⟩ ⟨by show cells + 2 ≤ 655733; omega, by show slots + 12 ≤ 7128906; omega⟩ hl.1 rfl (Nat.le_of_ble_eq_true rfl) d_W_law_333 (fun E _ _ _ _ hex => hex.elim) (fun rr MM H locs hp hW => ?_)
        obtain ⟨rfl, rfl⟩ := hp
        refine lv_istore (lv' := [(6, .int r29.1), (5, .int v28_5), (4, .ref (ad 140)), (3, .ref (ad 139)), (2, .ref (ad 117)), (1, .ref (ad 0)), (0, .ref b)]) hx hb d_W_law_336 hl (by decide) rfl (fun ls hl => ?_)
        refine lv_aload_n hx hb d_W_law_338 rfl (lv_at hl 4 rfl) ?_
        refine lv_aload_n hx hb d_W_law_339 rfl (lv_at hl 6 rfl) ?_
        refine lv_iload hx hb d_W_law_340 (lv_at hl 1 rfl) ?_
        refine lv_iconst (v := 1) hx hb d_W_law_342 (by decide) ?_
        refine lv_iadd hx hb d_W_law_343 ?_
        obtain ⟨g30, hf⟩ := rd_g hf
        refine va_sld hx hb hX hbl hbA hW.2 g30 d_W_law_344 ?_
        obtain ⟨r31, qr31, hf⟩ := rd_bind hf
        refine rd_callVS (k := 0) (As := [.int (xs (v28_5 + 1).toNatClampNeg)]) (rest := []) lw_EN rd_gd C9 hTh hW (c_N_contact hls (xs (v28_5 + 1).toNatClampNeg) qr31) kc_N_contact ki_N_contact ks_N_contact l_W_113 rfl lt_N ce_N rfl ⟨Nat.le_of_ble_eq_true rfl, Nat.le_of_ble_eq_true rfl⟩ ⟨by show cells + 2 + 0 ≤ 655733; omega, by show slots + 12 + 0 ≤ 7128906; omega⟩ hl.1 rfl (Nat.le_of_ble_eq_true rfl) d_W_law_345 (fun E _ _ _ _ hex => hex.elim) (fun rr MM H locs hp hW => ?_)
        obtain ⟨rfl, rfl⟩ := hp
        have hW : rd_W D rd_cl (lw_L Ka) ad (fun q => s.heap.size ≤ q) s.heap (rd_pm 22 117 r29.2 r31.2) H locs := hW
        refine lv_istore (lv' := [(7, .int r31.1), (6, .int r29.1), (5, .int v28_5), (4, .ref (ad 140)), (3, .ref (ad 139)), (2, .ref (ad 117)), (1, .ref (ad 0)), (0, .ref b)]) hx hb d_W_law_348 hl (by decide) rfl (fun ls hl => ?_)
        refine lv_aload_n hx hb d_W_law_350 rfl (lv_at hl 5 rfl) ?_
        obtain ⟨r32, qr32, hf⟩ := rd_bind hf
        refine rd_callVS (k := 0) (As := []) (rest := []) lw_EN rd_gd C9 hTh hW (c_N_thrown hls qr32) kc_N_thrown ki_N_thrown ks_N_thrown l_W_102 rfl lt_N ce_N rfl ⟨Nat.le_of_ble_eq_true rfl, Nat.le_of_ble_eq_true rfl⟩ ⟨by show cells + 2 + 0 + 0 ≤ 655733; omega, by show slots + 12 + 0 + 0 ≤ 7128906; omega⟩ hl.1 rfl (Nat.le_of_ble_eq_true rfl) d_W_law_351 (fun E _ _ _ _ hex => hex.elim) (fun rr MM H locs hp hW => ?_)
        obtain ⟨rfl, rfl⟩ := hp
        rw [rd_pm_self] at hW
        refine lv_iload hx hb d_W_law_354 (lv_at hl 1 rfl) ?_
        refine lv_icmp_eq (tgt := 361) hx hb d_W_law_356 (by decide) (fun c33 => ?_) (fun c33 => ?_)
        · have hf := rd_t hf c33
          refine lv_iload hx hb d_W_law_361 (lv_at hl 1 rfl) ?_
          refine lv_if_ne (tgt := 378) hx hb d_W_law_363 (by decide) (fun c34 => ?_) (fun c34 => ?_)
          · have hf := rd_f hf c34
            refine lv_goto (tgt := 1788) hx hb d_W_law_378 (by decide) ?_
            refine lv_iinc (v := v28_5 + 6) (lv' := [(5, .int (v28_5 + 6)), (7, .int r31.1), (6, .int r29.1), (4, .ref (ad 140)), (3, .ref (ad 139)), (2, .ref (ad 117)), (1, .ref (ad 0)), (0, .ref b)]) hx hb d_W_law_1788 hl (k := 2) rfl rfl (by decide) rfl (fun ls hl => ?_)
            refine lv_goto (tgt := 28) hx hb d_W_law_1791 (by decide) ?_
            exact ih_28 _ _ _ _ _ _ _ hf (by show cells + 2 + 0 + 0 + 64 * fu ≤ 655733; omega) (by show slots + 12 + 0 + 0 + 512 * fu ≤ 7128906; omega) hW (lv_sub hl [0, 3, 4, 5, 6, 7] rfl)
          · have hf := rd_t hf c34
            refine lv_aload_n hx hb d_W_law_366 rfl (lv_at hl 4 rfl) ?_
            refine lv_iconst (v := 0) hx hb d_W_law_367 (by decide) ?_
            refine al_out C9 hW (i := 0) (by decide) (show rd_in 0 1 by decide) d_W_law_368 ?_
            refine lv_iload hx hb d_W_law_369 (lv_at hl 0 rfl) ?_
            refine lv_i2l hx hb d_W_law_371 rfl ?_
            refine W.lcmp hx hb d_W_law_372 ?_
            refine lv_if_eq (tgt := 378) hx hb d_W_law_373 (by decide) (fun c35 => ?_) (fun c35 => ?_)
            · have hf := rd_t hf c35
              refine lv_goto (tgt := 1788) hx hb d_W_law_378 (by decide) ?_
              refine lv_iinc (v := v28_5 + 6) (lv' := [(5, .int (v28_5 + 6)), (7, .int r31.1), (6, .int r29.1), (4, .ref (ad 140)), (3, .ref (ad 139)), (2, .ref (ad 117)), (1, .ref (ad 0)), (0, .ref b)]) hx hb d_W_law_1788 hl (k := 2) rfl rfl (by decide) rfl (fun ls hl => ?_)
              refine lv_goto (tgt := 28) hx hb d_W_law_1791 (by decide) ?_
              exact ih_28 _ _ _ _ _ _ _ hf (by show cells + 2 + 0 + 0 + 64 * fu ≤ 655733; omega) (by show slots + 12 + 0 + 0 + 512 * fu ≤ 7128906; omega) hW (lv_sub hl [0, 3, 4, 5, 6, 7] rfl)
            · have hf := rd_f hf c35
              refine lv_iconst (v := 0) hx hb d_W_law_376 (by decide) ?_
              exact absurd (Option.some.inj hf) (by decide)
        · have hf := rd_f hf c33
          refine lv_iconst (v := 0) hx hb d_W_law_359 (by decide) ?_
          exact absurd (Option.some.inj hf) (by decide)
      have hf := rd_f hf c27
      by_cases c36 : ((xs (v28_5).toNatClampNeg) &&& 31) = 3
      · have hf := rd_t hf c36
        refine lv_tableIn (off := 336) (tgt := 381) hx hb d_W_law_45 (by rw [c36]; decide) (by rw [c36]; decide) (by rw [c36]; rfl) (by decide) ?_
        refine lv_aload_n hx hb d_W_law_381 rfl (lv_at hl 4 rfl) ?_
        refine lv_aload_n hx hb d_W_law_382 rfl (lv_at hl 5 rfl) ?_
        refine lv_iload hx hb d_W_law_383 (lv_at hl 0 rfl) ?_
        refine lv_iconst (v := 1) hx hb d_W_law_385 (by decide) ?_
        refine lv_iadd hx hb d_W_law_386 ?_
        obtain ⟨g37, hf⟩ := rd_g hf
        refine va_sld hx hb hX hbl hbA hW.2 g37 d_W_law_387 ?_
        refine lv_aload_n hx hb d_W_law_388 rfl (lv_at hl 5 rfl) ?_
        refine lv_iload hx hb d_W_law_389 (lv_at hl 0 rfl) ?_
        refine lv_iconst (v := 2) hx hb d_W_law_391 (by decide) ?_
        refine lv_iadd hx hb d_W_law_392 ?_
        obtain ⟨g38, hf⟩ := rd_g hf
        refine va_sld hx hb hX hbl hbA hW.2 g38 d_W_law_393 ?_
        refine lv_aload_n hx hb d_W_law_394 rfl (lv_at hl 5 rfl) ?_
        refine lv_iload hx hb d_W_law_395 (lv_at hl 0 rfl) ?_
        refine lv_iconst (v := 3) hx hb d_W_law_397 (by decide) ?_
        refine lv_iadd hx hb d_W_law_398 ?_
        obtain ⟨g39, hf⟩ := rd_g hf
        refine va_sld hx hb hX hbl hbA hW.2 g39 d_W_law_399 ?_
        refine lv_aload_n hx hb d_W_law_400 rfl (lv_at hl 2 rfl) ?_
        obtain ⟨r40, qr40, hf⟩ := rd_bind hf
        refine rd_callSW (As := [.ref (ad 0), .int (xs (v28_5 + 1).toNatClampNeg), .int (xs (v28_5 + 2).toNatClampNeg), .int (xs (v28_5 + 3).toNatClampNeg), .ref (ad 139)]) (rest := []) rd_gd C9 hTh hW (c_W_host hls (xs (v28_5 + 1).toNatClampNeg) (xs (v28_5 + 2).toNatClampNeg) (xs (v28_5 + 3).toNatClampNeg) qr40) kc_W_host ki_W_host l_W_114 rfl ⟨Nat.le_of_ble_eq_true rfl, Nat.le_of_ble_eq_true rfl⟩ ⟨by show cells + 7 ≤ 655733; omega, by show slots + 42 ≤ 7128906; omega⟩ hl.1 rfl (Nat.le_of_ble_eq_true rfl) d_W_law_401 (fun E _ _ _ _ hex => hex.elim) (fun rr MM H locs hp hW => ?_)
        obtain ⟨rfl, rfl⟩ := hp
        refine lv_istore (lv' := [(6, .int r40.1), (5, .int v28_5), (4, .ref (ad 140)), (3, .ref (ad 139)), (2, .ref (ad 117)), (1, .ref (ad 0)), (0, .ref b)]) hx hb d_W_law_404 hl (by decide) rfl (fun ls hl => ?_)
        refine lv_aload_n hx hb d_W_law_406 rfl (lv_at hl 4 rfl) ?_
        refine lv_aload_n hx hb d_W_law_407 rfl (lv_at hl 6 rfl) ?_
        refine lv_iload hx hb d_W_law_408 (lv_at hl 1 rfl) ?_
        refine lv_iconst (v := 1) hx hb d_W_law_410 (by decide) ?_
        refine lv_iadd hx hb d_W_law_411 ?_
        obtain ⟨g41, hf⟩ := rd_g hf
        refine va_sld hx hb hX hbl hbA hW.2 g41 d_W_law_412 ?_
        refine lv_aload_n hx hb d_W_law_413 rfl (lv_at hl 6 rfl) ?_
        refine lv_iload hx hb d_W_law_414 (lv_at hl 1 rfl) ?_
        refine lv_iconst (v := 2) hx hb d_W_law_416 (by decide) ?_
        refine lv_iadd hx hb d_W_law_417 ?_
        obtain ⟨g42, hf⟩ := rd_g hf
        refine va_sld hx hb hX hbl hbA hW.2 g42 d_W_law_418 ?_
        refine lv_aload_n hx hb d_W_law_419 rfl (lv_at hl 6 rfl) ?_
        refine lv_iload hx hb d_W_law_420 (lv_at hl 1 rfl) ?_
        refine lv_iconst (v := 3) hx hb d_W_law_422 (by decide) ?_
        refine lv_iadd hx hb d_W_law_423 ?_
        obtain ⟨g43, hf⟩ := rd_g hf
        refine va_sld hx hb hX hbl hbA hW.2 g43 d_W_law_424 ?_
        obtain ⟨r44, qr44, hf⟩ := rd_bind hf
        refine rd_callVS (k := 0) (As := [.int (xs (v28_5 + 1).toNatClampNeg), .int (xs (v28_5 + 2).toNatClampNeg), .int (xs (v28_5 + 3).toNatClampNeg)]) (rest := []) lw_EN rd_gd C9 hTh hW (c_N_host hls (xs (v28_5 + 1).toNatClampNeg) (xs (v28_5 + 2).toNatClampNeg) (xs (v28_5 + 3).toNatClampNeg) qr44) kc_N_host ki_N_host ks_N_host l_W_117 rfl lt_N ce_N rfl ⟨Nat.le_of_ble_eq_true rfl, Nat.le_of_ble_eq_true rfl⟩ ⟨by show cells + 7 + 0 ≤ 655733; omega, by show slots + 42 + 0 ≤ 7128906; omega⟩ hl.1 rfl (Nat.le_of_ble_eq_true rfl) d_W_law_425 (fun E _ _ _ _ hex => hex.elim) (fun rr MM H locs hp hW => ?_)
        obtain ⟨rfl, rfl⟩ := hp
        have hW : rd_W D rd_cl (lw_L Ka) ad (fun q => s.heap.size ≤ q) s.heap (rd_pm 22 117 r40.2 r44.2) H locs := hW
        refine lv_istore (lv' := [(7, .int r44.1), (6, .int r40.1), (5, .int v28_5), (4, .ref (ad 140)), (3, .ref (ad 139)), (2, .ref (ad 117)), (1, .ref (ad 0)), (0, .ref b)]) hx hb d_W_law_428 hl (by decide) rfl (fun ls hl => ?_)
        refine lv_aload_n hx hb d_W_law_430 rfl (lv_at hl 5 rfl) ?_
        obtain ⟨r45, qr45, hf⟩ := rd_bind hf
        refine rd_callVS (k := 0) (As := []) (rest := []) lw_EN rd_gd C9 hTh hW (c_N_thrown hls qr45) kc_N_thrown ki_N_thrown ks_N_thrown l_W_102 rfl lt_N ce_N rfl ⟨Nat.le_of_ble_eq_true rfl, Nat.le_of_ble_eq_true rfl⟩ ⟨by show cells + 7 + 0 + 0 ≤ 655733; omega, by show slots + 42 + 0 + 0 ≤ 7128906; omega⟩ hl.1 rfl (Nat.le_of_ble_eq_true rfl) d_W_law_431 (fun E _ _ _ _ hex => hex.elim) (fun rr MM H locs hp hW => ?_)
        obtain ⟨rfl, rfl⟩ := hp
        rw [rd_pm_self] at hW
        refine lv_iload hx hb d_W_law_434 (lv_at hl 1 rfl) ?_
        refine lv_icmp_eq (tgt := 441) hx hb d_W_law_436 (by decide) (fun c46 => ?_) (fun c46 => ?_)
        · have hf := rd_t hf c46
          refine lv_iload hx hb d_W_law_441 (lv_at hl 1 rfl) ?_
          refine lv_if_ne (tgt := 458) hx hb d_W_law_443 (by decide) (fun c47 => ?_) (fun c47 => ?_)
          · have hf := rd_f hf c47
            refine lv_goto (tgt := 1788) hx hb d_W_law_458 (by decide) ?_
            refine lv_iinc (v := v28_5 + 6) (lv' := [(5, .int (v28_5 + 6)), (7, .int r44.1), (6, .int r40.1), (4, .ref (ad 140)), (3, .ref (ad 139)), (2, .ref (ad 117)), (1, .ref (ad 0)), (0, .ref b)]) hx hb d_W_law_1788 hl (k := 2) rfl rfl (by decide) rfl (fun ls hl => ?_)
            refine lv_goto (tgt := 28) hx hb d_W_law_1791 (by decide) ?_
            exact ih_28 _ _ _ _ _ _ _ hf (by show cells + 7 + 0 + 0 + 64 * fu ≤ 655733; omega) (by show slots + 42 + 0 + 0 + 512 * fu ≤ 7128906; omega) hW (lv_sub hl [0, 3, 4, 5, 6, 7] rfl)
          · have hf := rd_t hf c47
            refine lv_aload_n hx hb d_W_law_446 rfl (lv_at hl 4 rfl) ?_
            refine lv_iconst (v := 0) hx hb d_W_law_447 (by decide) ?_
            refine al_out C9 hW (i := 0) (by decide) (show rd_in 0 1 by decide) d_W_law_448 ?_
            refine lv_iload hx hb d_W_law_449 (lv_at hl 0 rfl) ?_
            refine lv_i2l hx hb d_W_law_451 rfl ?_
            refine W.lcmp hx hb d_W_law_452 ?_
            refine lv_if_eq (tgt := 458) hx hb d_W_law_453 (by decide) (fun c48 => ?_) (fun c48 => ?_)
            · have hf := rd_t hf c48
              refine lv_goto (tgt := 1788) hx hb d_W_law_458 (by decide) ?_
              refine lv_iinc (v := v28_5 + 6) (lv' := [(5, .int (v28_5 + 6)), (7, .int r44.1), (6, .int r40.1), (4, .ref (ad 140)), (3, .ref (ad 139)), (2, .ref (ad 117)), (1, .ref (ad 0)), (0, .ref b)]) hx hb d_W_law_1788 hl (k := 2) rfl rfl (by decide) rfl (fun ls hl => ?_)
              refine lv_goto (tgt := 28) hx hb d_W_law_1791 (by decide) ?_
              exact ih_28 _ _ _ _ _ _ _ hf (by show cells + 7 + 0 + 0 + 64 * fu ≤ 655733; omega) (by show slots + 42 + 0 + 0 + 512 * fu ≤ 7128906; omega) hW (lv_sub hl [0, 3, 4, 5, 6, 7] rfl)
            · have hf := rd_f hf c48
              refine lv_iconst (v := 0) hx hb d_W_law_456 (by decide) ?_
              exact absurd (Option.some.inj hf) (by decide)
        · have hf := rd_f hf c46
          refine lv_iconst (v := 0) hx hb d_W_law_439 (by decide) ?_
          exact absurd (Option.some.inj hf) (by decide)
      have hf := rd_f hf c36
      by_cases c49 : ((xs (v28_5).toNatClampNeg) &&& 31) = 4
      · have hf := rd_t hf c49
        refine lv_tableIn (off := 416) (tgt := 461) hx hb d_W_law_45 (by rw [c49]; decide) (by rw [c49]; decide) (by rw [c49]; rfl) (by decide) ?_
        refine lv_aload_n hx hb d_W_law_461 rfl (lv_at hl 4 rfl) ?_
        refine lv_aload_n hx hb d_W_law_462 rfl (lv_at hl 5 rfl) ?_
        refine lv_iload hx hb d_W_law_463 (lv_at hl 0 rfl) ?_
        refine lv_iconst (v := 1) hx hb d_W_law_465 (by decide) ?_
        refine lv_iadd hx hb d_W_law_466 ?_
        obtain ⟨g50, hf⟩ := rd_g hf
        refine va_sld hx hb hX hbl hbA hW.2 g50 d_W_law_467 ?_
        refine lv_aload_n hx hb d_W_law_468 rfl (lv_at hl 5 rfl) ?_
        refine lv_iload hx hb d_W_law_469 (lv_at hl 0 rfl) ?_
        refine lv_iconst (v := 2) hx hb d_W_law_471 (by decide) ?_
        refine lv_iadd hx hb d_W_law_472 ?_
        obtain ⟨g51, hf⟩ := rd_g hf
        refine va_sld hx hb hX hbl hbA hW.2 g51 d_W_law_473 ?_
        refine lv_aload_n hx hb d_W_law_474 rfl (lv_at hl 5 rfl) ?_
        refine lv_iload hx hb d_W_law_475 (lv_at hl 0 rfl) ?_
        refine lv_iconst (v := 3) hx hb d_W_law_477 (by decide) ?_
        refine lv_iadd hx hb d_W_law_478 ?_
        obtain ⟨g52, hf⟩ := rd_g hf
        refine va_sld hx hb hX hbl hbA hW.2 g52 d_W_law_479 ?_
        refine lv_aload_n hx hb d_W_law_480 rfl (lv_at hl 2 rfl) ?_
        obtain ⟨r53, qr53, hf⟩ := rd_bind hf
        refine rd_callSW (As := [.ref (ad 0), .int (xs (v28_5 + 1).toNatClampNeg), .int (xs (v28_5 + 2).toNatClampNeg), .int (xs (v28_5 + 3).toNatClampNeg), .ref (ad 139)]) (rest := []) rd_gd C9 hTh hW (c_W_remove hls (xs (v28_5 + 1).toNatClampNeg) (xs (v28_5 + 2).toNatClampNeg) (xs (v28_5 + 3).toNatClampNeg) qr53) kc_W_remove ki_W_remove l_W_118 rfl ⟨Nat.le_of_ble_eq_true rfl, Nat.le_of_ble_eq_true rfl⟩ ⟨by show cells + 5 ≤ 655733; omega, by show slots + 30 ≤ 7128906; omega⟩ hl.1 rfl (Nat.le_of_ble_eq_true rfl) d_W_law_481 (fun E _ _ _ _ hex => hex.elim) (fun rr MM H locs hp hW => ?_)
        obtain ⟨rfl, rfl⟩ := hp
        refine lv_istore (lv' := [(6, .int r53.1), (5, .int v28_5), (4, .ref (ad 140)), (3, .ref (ad 139)), (2, .ref (ad 117)), (1, .ref (ad 0)), (0, .ref b)]) hx hb d_W_law_484 hl (by decide) rfl (fun ls hl => ?_)
        refine lv_aload_n hx hb d_W_law_486 rfl (lv_at hl 4 rfl) ?_
        refine lv_aload_n hx hb d_W_law_487 rfl (lv_at hl 6 rfl) ?_
        refine lv_iload hx hb d_W_law_488 (lv_at hl 1 rfl) ?_
        refine lv_iconst (v := 1) hx hb d_W_law_490 (by decide) ?_
        refine lv_iadd hx hb d_W_law_491 ?_
        obtain ⟨g54, hf⟩ := rd_g hf
        refine va_sld hx hb hX hbl hbA hW.2 g54 d_W_law_492 ?_
        refine lv_aload_n hx hb d_W_law_493 rfl (lv_at hl 6 rfl) ?_
        refine lv_iload hx hb d_W_law_494 (lv_at hl 1 rfl) ?_
        refine lv_iconst (v := 2) hx hb d_W_law_496 (by decide) ?_
        refine lv_iadd hx hb d_W_law_497 ?_
        obtain ⟨g55, hf⟩ := rd_g hf
        refine va_sld hx hb hX hbl hbA hW.2 g55 d_W_law_498 ?_
        refine lv_aload_n hx hb d_W_law_499 rfl (lv_at hl 6 rfl) ?_
        refine lv_iload hx hb d_W_law_500 (lv_at hl 1 rfl) ?_
        refine lv_iconst (v := 3) hx hb d_W_law_502 (by decide) ?_
        refine lv_iadd hx hb d_W_law_503 ?_
        obtain ⟨g56, hf⟩ := rd_g hf
        refine va_sld hx hb hX hbl hbA hW.2 g56 d_W_law_504 ?_
        obtain ⟨r57, qr57, hf⟩ := rd_bind hf
        refine rd_callVS (k := 0) (As := [.int (xs (v28_5 + 1).toNatClampNeg), .int (xs (v28_5 + 2).toNatClampNeg), .int (xs (v28_5 + 3).toNatClampNeg)]) (rest := []) lw_EN rd_gd C9 hTh hW (c_N_remove hls (xs (v28_5 + 1).toNatClampNeg) (xs (v28_5 + 2).toNatClampNeg) (xs (v28_5 + 3).toNatClampNeg) qr57) kc_N_remove ki_N_remove ks_N_remove l_W_120 rfl lt_N ce_N rfl ⟨Nat.le_of_ble_eq_true rfl, Nat.le_of_ble_eq_true rfl⟩ ⟨by show cells + 5 + 0 ≤ 655733; omega, by show slots + 30 + 0 ≤ 7128906; omega⟩ hl.1 rfl (Nat.le_of_ble_eq_true rfl) d_W_law_505 (fun E _ _ _ _ hex => hex.elim) (fun rr MM H locs hp hW => ?_)
        obtain ⟨rfl, rfl⟩ := hp
        have hW : rd_W D rd_cl (lw_L Ka) ad (fun q => s.heap.size ≤ q) s.heap (rd_pm 22 117 r53.2 r57.2) H locs := hW
        refine lv_istore (lv' := [(7, .int r57.1), (6, .int r53.1), (5, .int v28_5), (4, .ref (ad 140)), (3, .ref (ad 139)), (2, .ref (ad 117)), (1, .ref (ad 0)), (0, .ref b)]) hx hb d_W_law_508 hl (by decide) rfl (fun ls hl => ?_)
        refine lv_aload_n hx hb d_W_law_510 rfl (lv_at hl 5 rfl) ?_
        obtain ⟨r58, qr58, hf⟩ := rd_bind hf
        refine rd_callVS (k := 0) (As := []) (rest := []) lw_EN rd_gd C9 hTh hW (c_N_thrown hls qr58) kc_N_thrown ki_N_thrown ks_N_thrown l_W_102 rfl lt_N ce_N rfl ⟨Nat.le_of_ble_eq_true rfl, Nat.le_of_ble_eq_true rfl⟩ ⟨by show cells + 5 + 0 + 0 ≤ 655733; omega, by show slots + 30 + 0 + 0 ≤ 7128906; omega⟩ hl.1 rfl (Nat.le_of_ble_eq_true rfl) d_W_law_511 (fun E _ _ _ _ hex => hex.elim) (fun rr MM H locs hp hW => ?_)
        obtain ⟨rfl, rfl⟩ := hp
        rw [rd_pm_self] at hW
        refine lv_iload hx hb d_W_law_514 (lv_at hl 1 rfl) ?_
        refine lv_icmp_eq (tgt := 521) hx hb d_W_law_516 (by decide) (fun c59 => ?_) (fun c59 => ?_)
        · have hf := rd_t hf c59
          refine lv_iload hx hb d_W_law_521 (lv_at hl 1 rfl) ?_
          refine lv_if_ne (tgt := 538) hx hb d_W_law_523 (by decide) (fun c60 => ?_) (fun c60 => ?_)
          · have hf := rd_f hf c60
            refine lv_goto (tgt := 1788) hx hb d_W_law_538 (by decide) ?_
            refine lv_iinc (v := v28_5 + 6) (lv' := [(5, .int (v28_5 + 6)), (7, .int r57.1), (6, .int r53.1), (4, .ref (ad 140)), (3, .ref (ad 139)), (2, .ref (ad 117)), (1, .ref (ad 0)), (0, .ref b)]) hx hb d_W_law_1788 hl (k := 2) rfl rfl (by decide) rfl (fun ls hl => ?_)
            refine lv_goto (tgt := 28) hx hb d_W_law_1791 (by decide) ?_
            exact ih_28 _ _ _ _ _ _ _ hf (by show cells + 5 + 0 + 0 + 64 * fu ≤ 655733; omega) (by show slots + 30 + 0 + 0 + 512 * fu ≤ 7128906; omega) hW (lv_sub hl [0, 3, 4, 5, 6, 7] rfl)
          · have hf := rd_t hf c60
            refine lv_aload_n hx hb d_W_law_526 rfl (lv_at hl 4 rfl) ?_
            refine lv_iconst (v := 0) hx hb d_W_law_527 (by decide) ?_
            refine al_out C9 hW (i := 0) (by decide) (show rd_in 0 1 by decide) d_W_law_528 ?_
            refine lv_iload hx hb d_W_law_529 (lv_at hl 0 rfl) ?_
            refine lv_i2l hx hb d_W_law_531 rfl ?_
            refine W.lcmp hx hb d_W_law_532 ?_
            refine lv_if_eq (tgt := 538) hx hb d_W_law_533 (by decide) (fun c61 => ?_) (fun c61 => ?_)
            · have hf := rd_t hf c61
              refine lv_goto (tgt := 1788) hx hb d_W_law_538 (by decide) ?_
              refine lv_iinc (v := v28_5 + 6) (lv' := [(5, .int (v28_5 + 6)), (7, .int r57.1), (6, .int r53.1), (4, .ref (ad 140)), (3, .ref (ad 139)), (2, .ref (ad 117)), (1, .ref (ad 0)), (0, .ref b)]) hx hb d_W_law_1788 hl (k := 2) rfl rfl (by decide) rfl (fun ls hl => ?_)
              refine lv_goto (tgt := 28) hx hb d_W_law_1791 (by decide) ?_
              exact ih_28 _ _ _ _ _ _ _ hf (by show cells + 5 + 0 + 0 + 64 * fu ≤ 655733; omega) (by show slots + 30 + 0 + 0 + 512 * fu ≤ 7128906; omega) hW (lv_sub hl [0, 3, 4, 5, 6, 7] rfl)
            · have hf := rd_f hf c61
              refine lv_iconst (v := 0) hx hb d_W_law_536 (by decide) ?_
              exact absurd (Option.some.inj hf) (by decide)
        · have hf := rd_f hf c59
          refine lv_iconst (v := 0) hx hb d_W_law_519 (by decide) ?_
          exact absurd (Option.some.inj hf) (by decide)
      have hf := rd_f hf c49
      by_cases c62 : ((xs (v28_5).toNatClampNeg) &&& 31) = 5
      · have hf := rd_t hf c62
        refine lv_tableIn (off := 496) (tgt := 541) hx hb d_W_law_45 (by rw [c62]; decide) (by rw [c62]; decide) (by rw [c62]; rfl) (by decide) ?_
        refine lv_aload_n hx hb d_W_law_541 rfl (lv_at hl 4 rfl) ?_
        refine lv_aload_n hx hb d_W_law_542 rfl (lv_at hl 5 rfl) ?_
        refine lv_iload hx hb d_W_law_543 (lv_at hl 0 rfl) ?_
        refine lv_iconst (v := 1) hx hb d_W_law_545 (by decide) ?_
        refine lv_iadd hx hb d_W_law_546 ?_
        obtain ⟨g63, hf⟩ := rd_g hf
        refine va_sld hx hb hX hbl hbA hW.2 g63 d_W_law_547 ?_
        refine lv_aload_n hx hb d_W_law_548 rfl (lv_at hl 5 rfl) ?_
        refine lv_iload hx hb d_W_law_549 (lv_at hl 0 rfl) ?_
        refine lv_iconst (v := 2) hx hb d_W_law_551 (by decide) ?_
        refine lv_iadd hx hb d_W_law_552 ?_
        obtain ⟨g64, hf⟩ := rd_g hf
        refine va_sld hx hb hX hbl hbA hW.2 g64 d_W_law_553 ?_
        refine lv_aload_n hx hb d_W_law_554 rfl (lv_at hl 5 rfl) ?_
        refine lv_iload hx hb d_W_law_555 (lv_at hl 0 rfl) ?_
        refine lv_iconst (v := 3) hx hb d_W_law_557 (by decide) ?_
        refine lv_iadd hx hb d_W_law_558 ?_
        obtain ⟨g65, hf⟩ := rd_g hf
        refine va_sld hx hb hX hbl hbA hW.2 g65 d_W_law_559 ?_
        refine lv_aload_n hx hb d_W_law_560 rfl (lv_at hl 5 rfl) ?_
        refine lv_iload hx hb d_W_law_561 (lv_at hl 0 rfl) ?_
        refine lv_iconst (v := 4) hx hb d_W_law_563 (by decide) ?_
        refine lv_iadd hx hb d_W_law_564 ?_
        obtain ⟨g66, hf⟩ := rd_g hf
        refine va_sld hx hb hX hbl hbA hW.2 g66 d_W_law_565 ?_
        refine lv_aload_n hx hb d_W_law_566 rfl (lv_at hl 5 rfl) ?_
        refine lv_iload hx hb d_W_law_567 (lv_at hl 0 rfl) ?_
        refine lv_iconst (v := 5) hx hb d_W_law_569 (by decide) ?_
        refine lv_iadd hx hb d_W_law_570 ?_
        obtain ⟨g67, hf⟩ := rd_g hf
        refine va_sld hx hb hX hbl hbA hW.2 g67 d_W_law_571 ?_
        refine lv_aload_n hx hb d_W_law_572 rfl (lv_at hl 2 rfl) ?_
        obtain ⟨r68, qr68, hf⟩ := rd_bind hf
        refine rd_callSW (As := [.ref (ad 0), .int (xs (v28_5 + 1).toNatClampNeg), .int (xs (v28_5 + 2).toNatClampNeg), .int (xs (v28_5 + 3).toNatClampNeg), .int (xs (v28_5 + 4).toNatClampNeg), .int (xs (v28_5 + 5).toNatClampNeg), .ref (ad 139)]) (rest := []) rd_gd C9 hTh hW (c_W_create hls (xs (v28_5 + 1).toNatClampNeg) (xs (v28_5 + 2).toNatClampNeg) (xs (v28_5 + 3).toNatClampNeg) (xs (v28_5 + 4).toNatClampNeg) (xs (v28_5 + 5).toNatClampNeg) qr68) kc_W_create ki_W_create l_W_121 rfl ⟨Nat.le_of_ble_eq_true rfl, Nat.le_of_ble_eq_true rfl⟩ ⟨by show cells + 7 ≤ 655733; omega, by show slots + 42 ≤ 7128906; omega⟩ hl.1 rfl (Nat.le_of_ble_eq_true rfl) d_W_law_573 (fun E _ _ _ _ hex => hex.elim) (fun rr MM H locs hp hW => ?_)
        obtain ⟨rfl, rfl⟩ := hp
        refine lv_istore (lv' := [(6, .int r68.1), (5, .int v28_5), (4, .ref (ad 140)), (3, .ref (ad 139)), (2, .ref (ad 117)), (1, .ref (ad 0)), (0, .ref b)]) hx hb d_W_law_576 hl (by decide) rfl (fun ls hl => ?_)
        refine lv_aload_n hx hb d_W_law_578 rfl (lv_at hl 4 rfl) ?_
        refine lv_aload_n hx hb d_W_law_579 rfl (lv_at hl 6 rfl) ?_
        refine lv_iload hx hb d_W_law_580 (lv_at hl 1 rfl) ?_
        refine lv_iconst (v := 1) hx hb d_W_law_582 (by decide) ?_
        refine lv_iadd hx hb d_W_law_583 ?_
        obtain ⟨g69, hf⟩ := rd_g hf
        refine va_sld hx hb hX hbl hbA hW.2 g69 d_W_law_584 ?_
        refine lv_aload_n hx hb d_W_law_585 rfl (lv_at hl 6 rfl) ?_
        refine lv_iload hx hb d_W_law_586 (lv_at hl 1 rfl) ?_
        refine lv_iconst (v := 2) hx hb d_W_law_588 (by decide) ?_
        refine lv_iadd hx hb d_W_law_589 ?_
        obtain ⟨g70, hf⟩ := rd_g hf
        refine va_sld hx hb hX hbl hbA hW.2 g70 d_W_law_590 ?_
        refine lv_aload_n hx hb d_W_law_591 rfl (lv_at hl 6 rfl) ?_
        refine lv_iload hx hb d_W_law_592 (lv_at hl 1 rfl) ?_
        refine lv_iconst (v := 3) hx hb d_W_law_594 (by decide) ?_
        refine lv_iadd hx hb d_W_law_595 ?_
        obtain ⟨g71, hf⟩ := rd_g hf
        refine va_sld hx hb hX hbl hbA hW.2 g71 d_W_law_596 ?_
        refine lv_aload_n hx hb d_W_law_597 rfl (lv_at hl 6 rfl) ?_
        refine lv_iload hx hb d_W_law_598 (lv_at hl 1 rfl) ?_
        refine lv_iconst (v := 4) hx hb d_W_law_600 (by decide) ?_
        refine lv_iadd hx hb d_W_law_601 ?_
        obtain ⟨g72, hf⟩ := rd_g hf
        refine va_sld hx hb hX hbl hbA hW.2 g72 d_W_law_602 ?_
        refine lv_aload_n hx hb d_W_law_603 rfl (lv_at hl 6 rfl) ?_
        refine lv_iload hx hb d_W_law_604 (lv_at hl 1 rfl) ?_
        refine lv_iconst (v := 5) hx hb d_W_law_606 (by decide) ?_
        refine lv_iadd hx hb d_W_law_607 ?_
        obtain ⟨g73, hf⟩ := rd_g hf
        refine va_sld hx hb hX hbl hbA hW.2 g73 d_W_law_608 ?_
        obtain ⟨r74, qr74, hf⟩ := rd_bind hf
        refine rd_callVS (k := 0) (As := [.int (xs (v28_5 + 1).toNatClampNeg), .int (xs (v28_5 + 2).toNatClampNeg), .int (xs (v28_5 + 3).toNatClampNeg), .int (xs (v28_5 + 4).toNatClampNeg), .int (xs (v28_5 + 5).toNatClampNeg)]) (rest := []) lw_EN rd_gd C9 hTh hW (c_N_create hls (xs (v28_5 + 1).toNatClampNeg) (xs (v28_5 + 2).toNatClampNeg) (xs (v28_5 + 3).toNatClampNeg) (xs (v28_5 + 4).toNatClampNeg) (xs (v28_5 + 5).toNatClampNeg) qr74) kc_N_create ki_N_create ks_N_create l_W_124 rfl lt_N ce_N rfl ⟨Nat.le_of_ble_eq_true rfl, Nat.le_of_ble_eq_true rfl⟩ ⟨by show cells + 7 + 0 ≤ 655733; omega, by show slots + 42 + 0 ≤ 7128906; omega⟩ hl.1 rfl (Nat.le_of_ble_eq_true rfl) d_W_law_609 (fun E _ _ _ _ hex => hex.elim) (fun rr MM H locs hp hW => ?_)
        obtain ⟨rfl, rfl⟩ := hp
        have hW : rd_W D rd_cl (lw_L Ka) ad (fun q => s.heap.size ≤ q) s.heap (rd_pm 22 117 r68.2 r74.2) H locs := hW
        refine lv_istore (lv' := [(7, .int r74.1), (6, .int r68.1), (5, .int v28_5), (4, .ref (ad 140)), (3, .ref (ad 139)), (2, .ref (ad 117)), (1, .ref (ad 0)), (0, .ref b)]) hx hb d_W_law_612 hl (by decide) rfl (fun ls hl => ?_)
        refine lv_aload_n hx hb d_W_law_614 rfl (lv_at hl 5 rfl) ?_
        obtain ⟨r75, qr75, hf⟩ := rd_bind hf
        refine rd_callVS (k := 0) (As := []) (rest := []) lw_EN rd_gd C9 hTh hW (c_N_thrown hls qr75) kc_N_thrown ki_N_thrown ks_N_thrown l_W_102 rfl lt_N ce_N rfl ⟨Nat.le_of_ble_eq_true rfl, Nat.le_of_ble_eq_true rfl⟩ ⟨by show cells + 7 + 0 + 0 ≤ 655733; omega, by show slots + 42 + 0 + 0 ≤ 7128906; omega⟩ hl.1 rfl (Nat.le_of_ble_eq_true rfl) d_W_law_615 (fun E _ _ _ _ hex => hex.elim) (fun rr MM H locs hp hW => ?_)
        obtain ⟨rfl, rfl⟩ := hp
        rw [rd_pm_self] at hW
        refine lv_iload hx hb d_W_law_618 (lv_at hl 1 rfl) ?_
        refine lv_icmp_eq (tgt := 625) hx hb d_W_law_620 (by decide) (fun c76 => ?_) (fun c76 => ?_)
        · have hf := rd_t hf c76
          refine lv_iload hx hb d_W_law_625 (lv_at hl 1 rfl) ?_
          refine lv_if_ne (tgt := 642) hx hb d_W_law_627 (by decide) (fun c77 => ?_) (fun c77 => ?_)
          · have hf := rd_f hf c77
            refine lv_goto (tgt := 1788) hx hb d_W_law_642 (by decide) ?_
            refine lv_iinc (v := v28_5 + 6) (lv' := [(5, .int (v28_5 + 6)), (7, .int r74.1), (6, .int r68.1), (4, .ref (ad 140)), (3, .ref (ad 139)), (2, .ref (ad 117)), (1, .ref (ad 0)), (0, .ref b)]) hx hb d_W_law_1788 hl (k := 2) rfl rfl (by decide) rfl (fun ls hl => ?_)
            refine lv_goto (tgt := 28) hx hb d_W_law_1791 (by decide) ?_
            exact ih_28 _ _ _ _ _ _ _ hf (by show cells + 7 + 0 + 0 + 64 * fu ≤ 655733; omega) (by show slots + 42 + 0 + 0 + 512 * fu ≤ 7128906; omega) hW (lv_sub hl [0, 3, 4, 5, 6, 7] rfl)
          · have hf := rd_t hf c77
            refine lv_aload_n hx hb d_W_law_630 rfl (lv_at hl 4 rfl) ?_
            refine lv_iconst (v := 0) hx hb d_W_law_631 (by decide) ?_
            refine al_out C9 hW (i := 0) (by decide) (show rd_in 0 1 by decide) d_W_law_632 ?_
            refine lv_iload hx hb d_W_law_633 (lv_at hl 0 rfl) ?_
            refine lv_i2l hx hb d_W_law_635 rfl ?_
            refine W.lcmp hx hb d_W_law_636 ?_
            refine lv_if_eq (tgt := 642) hx hb d_W_law_637 (by decide) (fun c78 => ?_) (fun c78 => ?_)
            · have hf := rd_t hf c78
              refine lv_goto (tgt := 1788) hx hb d_W_law_642 (by decide) ?_
              refine lv_iinc (v := v28_5 + 6) (lv' := [(5, .int (v28_5 + 6)), (7, .int r74.1), (6, .int r68.1), (4, .ref (ad 140)), (3, .ref (ad 139)), (2, .ref (ad 117)), (1, .ref (ad 0)), (0, .ref b)]) hx hb d_W_law_1788 hl (k := 2) rfl rfl (by decide) rfl (fun ls hl => ?_)
              refine lv_goto (tgt := 28) hx hb d_W_law_1791 (by decide) ?_
              exact ih_28 _ _ _ _ _ _ _ hf (by show cells + 7 + 0 + 0 + 64 * fu ≤ 655733; omega) (by show slots + 42 + 0 + 0 + 512 * fu ≤ 7128906; omega) hW (lv_sub hl [0, 3, 4, 5, 6, 7] rfl)
            · have hf := rd_f hf c78
              refine lv_iconst (v := 0) hx hb d_W_law_640 (by decide) ?_
              exact absurd (Option.some.inj hf) (by decide)
        · have hf := rd_f hf c76
          refine lv_iconst (v := 0) hx hb d_W_law_623 (by decide) ?_
          exact absurd (Option.some.inj hf) (by decide)
      have hf := rd_f hf c62
      by_cases c79 : ((xs (v28_5).toNatClampNeg) &&& 31) = 6
      · have hf := rd_t hf c79
        refine lv_tableIn (off := 600) (tgt := 645) hx hb d_W_law_45 (by rw [c79]; decide) (by rw [c79]; decide) (by rw [c79]; rfl) (by decide) ?_
        refine lv_aload_n hx hb d_W_law_645 rfl (lv_at hl 4 rfl) ?_
        refine lv_aload_n hx hb d_W_law_646 rfl (lv_at hl 5 rfl) ?_
        refine lv_iload hx hb d_W_law_647 (lv_at hl 0 rfl) ?_
        refine lv_iconst (v := 1) hx hb d_W_law_649 (by decide) ?_
        refine lv_iadd hx hb d_W_law_650 ?_
        obtain ⟨g80, hf⟩ := rd_g hf
        refine va_sld hx hb hX hbl hbA hW.2 g80 d_W_law_651 ?_
        refine lv_aload_n hx hb d_W_law_652 rfl (lv_at hl 5 rfl) ?_
        refine lv_iload hx hb d_W_law_653 (lv_at hl 0 rfl) ?_
        refine lv_iconst (v := 2) hx hb d_W_law_655 (by decide) ?_
        refine lv_iadd hx hb d_W_law_656 ?_
        obtain ⟨g81, hf⟩ := rd_g hf
        refine va_sld hx hb hX hbl hbA hW.2 g81 d_W_law_657 ?_
        refine lv_aload_n hx hb d_W_law_658 rfl (lv_at hl 5 rfl) ?_
        refine lv_iload hx hb d_W_law_659 (lv_at hl 0 rfl) ?_
        refine lv_iconst (v := 3) hx hb d_W_law_661 (by decide) ?_
        refine lv_iadd hx hb d_W_law_662 ?_
        obtain ⟨g82, hf⟩ := rd_g hf
        refine va_sld hx hb hX hbl hbA hW.2 g82 d_W_law_663 ?_
        refine lv_aload_n hx hb d_W_law_664 rfl (lv_at hl 5 rfl) ?_
        refine lv_iload hx hb d_W_law_665 (lv_at hl 0 rfl) ?_
        refine lv_iconst (v := 4) hx hb d_W_law_667 (by decide) ?_
        refine lv_iadd hx hb d_W_law_668 ?_
        obtain ⟨g83, hf⟩ := rd_g hf
        refine va_sld hx hb hX hbl hbA hW.2 g83 d_W_law_669 ?_
        refine lv_aload_n hx hb d_W_law_670 rfl (lv_at hl 5 rfl) ?_
        refine lv_iload hx hb d_W_law_671 (lv_at hl 0 rfl) ?_
        refine lv_iconst (v := 5) hx hb d_W_law_673 (by decide) ?_
        refine lv_iadd hx hb d_W_law_674 ?_
        obtain ⟨g84, hf⟩ := rd_g hf
        refine va_sld hx hb hX hbl hbA hW.2 g84 d_W_law_675 ?_
        obtain ⟨z86, hz86, hf⟩ := rd_k_el hf
        refine rd_sel z86 (fun z => F0 m 684 ls (.int z :: [.int (xs (v28_5 + 4).toNatClampNeg), .int (xs (v28_5 + 3).toNatClampNeg), .int (xs (v28_5 + 2).toNatClampNeg), .int (xs (v28_5 + 1).toNatClampNeg), .ref (ad 0)])) hz86 (fun hJ => ?_) ?_
        · refine lv_if_eq (tgt := 683) hx hb d_W_law_676 (by decide) (fun c85 => ?_) (fun c85 => ?_)
          · have hJ := rd_selt (g := (fun z => F0 m 684 ls (.int z :: [.int (xs (v28_5 + 4).toNatClampNeg), .int (xs (v28_5 + 3).toNatClampNeg), .int (xs (v28_5 + 2).toNatClampNeg), .int (xs (v28_5 + 1).toNatClampNeg), .ref (ad 0)]))) hJ c85
            refine lv_iconst (v := 0) hx hb d_W_law_683 (by decide) ?_
            exact hJ
          · have hJ := rd_self (g := (fun z => F0 m 684 ls (.int z :: [.int (xs (v28_5 + 4).toNatClampNeg), .int (xs (v28_5 + 3).toNatClampNeg), .int (xs (v28_5 + 2).toNatClampNeg), .int (xs (v28_5 + 1).toNatClampNeg), .ref (ad 0)]))) hJ c85
            refine lv_iconst (v := 1) hx hb d_W_law_679 (by decide) ?_
            refine lv_goto (tgt := 684) hx hb d_W_law_680 (by decide) ?_
            exact hJ
        refine lv_aload_n hx hb d_W_law_684 rfl (lv_at hl 2 rfl) ?_
        obtain ⟨r87, qr87, hf⟩ := rd_bind hf
        refine rd_callSW (As := [.ref (ad 0), .int (xs (v28_5 + 1).toNatClampNeg), .int (xs (v28_5 + 2).toNatClampNeg), .int (xs (v28_5 + 3).toNatClampNeg), .int (xs (v28_5 + 4).toNatClampNeg), .int z86, .ref (ad 139)]) (rest := []) rd_gd C9 hTh hW (c_W_change hls (xs (v28_5 + 1).toNatClampNeg) (xs (v28_5 + 2).toNatClampNeg) (xs (v28_5 + 3).toNatClampNeg) (xs (v28_5 + 4).toNatClampNeg) z86 qr87) kc_W_change ki_W_change l_W_125 rfl ⟨Nat.le_of_ble_eq_true rfl, Nat.le_of_ble_eq_true rfl⟩ ⟨by show cells + 10 ≤ 655733; omega, by show slots + 60 ≤ 7128906; omega⟩ hl.1 rfl (Nat.le_of_ble_eq_true rfl) d_W_law_685 (fun E _ _ _ _ hex => hex.elim) (fun rr MM H locs hp hW => ?_)
        obtain ⟨rfl, rfl⟩ := hp
        refine lv_istore (lv' := [(6, .int r87.1), (5, .int v28_5), (4, .ref (ad 140)), (3, .ref (ad 139)), (2, .ref (ad 117)), (1, .ref (ad 0)), (0, .ref b)]) hx hb d_W_law_688 hl (by decide) rfl (fun ls hl => ?_)
        refine lv_aload_n hx hb d_W_law_690 rfl (lv_at hl 4 rfl) ?_
        refine lv_aload_n hx hb d_W_law_691 rfl (lv_at hl 6 rfl) ?_
        refine lv_iload hx hb d_W_law_692 (lv_at hl 1 rfl) ?_
        refine lv_iconst (v := 1) hx hb d_W_law_694 (by decide) ?_
        refine lv_iadd hx hb d_W_law_695 ?_
        obtain ⟨g88, hf⟩ := rd_g hf
        refine va_sld hx hb hX hbl hbA hW.2 g88 d_W_law_696 ?_
        refine lv_aload_n hx hb d_W_law_697 rfl (lv_at hl 6 rfl) ?_
        refine lv_iload hx hb d_W_law_698 (lv_at hl 1 rfl) ?_
        refine lv_iconst (v := 2) hx hb d_W_law_700 (by decide) ?_
        refine lv_iadd hx hb d_W_law_701 ?_
        obtain ⟨g89, hf⟩ := rd_g hf
        refine va_sld hx hb hX hbl hbA hW.2 g89 d_W_law_702 ?_
        refine lv_aload_n hx hb d_W_law_703 rfl (lv_at hl 6 rfl) ?_
        refine lv_iload hx hb d_W_law_704 (lv_at hl 1 rfl) ?_
        refine lv_iconst (v := 3) hx hb d_W_law_706 (by decide) ?_
        refine lv_iadd hx hb d_W_law_707 ?_
        obtain ⟨g90, hf⟩ := rd_g hf
        refine va_sld hx hb hX hbl hbA hW.2 g90 d_W_law_708 ?_
        refine lv_aload_n hx hb d_W_law_709 rfl (lv_at hl 6 rfl) ?_
        refine lv_iload hx hb d_W_law_710 (lv_at hl 1 rfl) ?_
        refine lv_iconst (v := 4) hx hb d_W_law_712 (by decide) ?_
        refine lv_iadd hx hb d_W_law_713 ?_
        obtain ⟨g91, hf⟩ := rd_g hf
        refine va_sld hx hb hX hbl hbA hW.2 g91 d_W_law_714 ?_
        refine lv_aload_n hx hb d_W_law_715 rfl (lv_at hl 6 rfl) ?_
        refine lv_iload hx hb d_W_law_716 (lv_at hl 1 rfl) ?_
        refine lv_iconst (v := 5) hx hb d_W_law_718 (by decide) ?_
        refine lv_iadd hx hb d_W_law_719 ?_
        obtain ⟨g92, hf⟩ := rd_g hf
        refine va_sld hx hb hX hbl hbA hW.2 g92 d_W_law_720 ?_
        obtain ⟨z94, hz94, hf⟩ := rd_k_el hf
        refine rd_sel z94 (fun z => F0 m 729 ls (.int z :: [.int (xs (v28_5 + 4).toNatClampNeg), .int (xs (v28_5 + 3).toNatClampNeg), .int (xs (v28_5 + 2).toNatClampNeg), .int (xs (v28_5 + 1).toNatClampNeg), .ref (ad 117)])) hz94 (fun hJ => ?_) ?_
        · refine lv_if_eq (tgt := 728) hx hb d_W_law_721 (by decide) (fun c93 => ?_) (fun c93 => ?_)
          · have hJ := rd_selt (g := (fun z => F0 m 729 ls (.int z :: [.int (xs (v28_5 + 4).toNatClampNeg), .int (xs (v28_5 + 3).toNatClampNeg), .int (xs (v28_5 + 2).toNatClampNeg), .int (xs (v28_5 + 1).toNatClampNeg), .ref (ad 117)]))) hJ c93
            refine lv_iconst (v := 0) hx hb d_W_law_728 (by decide) ?_
            exact hJ
          · have hJ := rd_self (g := (fun z => F0 m 729 ls (.int z :: [.int (xs (v28_5 + 4).toNatClampNeg), .int (xs (v28_5 + 3).toNatClampNeg), .int (xs (v28_5 + 2).toNatClampNeg), .int (xs (v28_5 + 1).toNatClampNeg), .ref (ad 117)]))) hJ c93
            refine lv_iconst (v := 1) hx hb d_W_law_724 (by decide) ?_
            refine lv_goto (tgt := 729) hx hb d_W_law_725 (by decide) ?_
            exact hJ
        obtain ⟨r95, qr95, hf⟩ := rd_bind hf
        refine rd_callVS (k := 0) (As := [.int (xs (v28_5 + 1).toNatClampNeg), .int (xs (v28_5 + 2).toNatClampNeg), .int (xs (v28_5 + 3).toNatClampNeg), .int (xs (v28_5 + 4).toNatClampNeg), .int z94]) (rest := []) lw_EN rd_gd C9 hTh hW (c_N_change hls (xs (v28_5 + 1).toNatClampNeg) (xs (v28_5 + 2).toNatClampNeg) (xs (v28_5 + 3).toNatClampNeg) (xs (v28_5 + 4).toNatClampNeg) z94 qr95) kc_N_change ki_N_change ks_N_change l_W_128 rfl lt_N ce_N rfl ⟨Nat.le_of_ble_eq_true rfl, Nat.le_of_ble_eq_true rfl⟩ ⟨by show cells + 10 + 0 ≤ 655733; omega, by show slots + 60 + 0 ≤ 7128906; omega⟩ hl.1 rfl (Nat.le_of_ble_eq_true rfl) d_W_law_729 (fun E _ _ _ _ hex => hex.elim) (fun rr MM H locs hp hW => ?_)
        obtain ⟨rfl, rfl⟩ := hp
        have hW : rd_W D rd_cl (lw_L Ka) ad (fun q => s.heap.size ≤ q) s.heap (rd_pm 22 117 r87.2 r95.2) H locs := hW
        refine lv_istore (lv' := [(7, .int r95.1), (6, .int r87.1), (5, .int v28_5), (4, .ref (ad 140)), (3, .ref (ad 139)), (2, .ref (ad 117)), (1, .ref (ad 0)), (0, .ref b)]) hx hb d_W_law_732 hl (by decide) rfl (fun ls hl => ?_)
        refine lv_aload_n hx hb d_W_law_734 rfl (lv_at hl 5 rfl) ?_
        obtain ⟨r96, qr96, hf⟩ := rd_bind hf
        refine rd_callVS (k := 0) (As := []) (rest := []) lw_EN rd_gd C9 hTh hW (c_N_thrown hls qr96) kc_N_thrown ki_N_thrown ks_N_thrown l_W_102 rfl lt_N ce_N rfl ⟨Nat.le_of_ble_eq_true rfl, Nat.le_of_ble_eq_true rfl⟩ ⟨by show cells + 10 + 0 + 0 ≤ 655733; omega, by show slots + 60 + 0 + 0 ≤ 7128906; omega⟩ hl.1 rfl (Nat.le_of_ble_eq_true rfl) d_W_law_735 (fun E _ _ _ _ hex => hex.elim) (fun rr MM H locs hp hW => ?_)
        obtain ⟨rfl, rfl⟩ := hp
        rw [rd_pm_self] at hW
        refine lv_iload hx hb d_W_law_738 (lv_at hl 1 rfl) ?_
        refine lv_icmp_eq (tgt := 745) hx hb d_W_law_740 (by decide) (fun c97 => ?_) (fun c97 => ?_)
        · have hf := rd_t hf c97
          refine lv_iload hx hb d_W_law_745 (lv_at hl 1 rfl) ?_
          refine lv_if_ne (tgt := 762) hx hb d_W_law_747 (by decide) (fun c98 => ?_) (fun c98 => ?_)
          · have hf := rd_f hf c98
            refine lv_goto (tgt := 1788) hx hb d_W_law_762 (by decide) ?_
            refine lv_iinc (v := v28_5 + 6) (lv' := [(5, .int (v28_5 + 6)), (7, .int r95.1), (6, .int r87.1), (4, .ref (ad 140)), (3, .ref (ad 139)), (2, .ref (ad 117)), (1, .ref (ad 0)), (0, .ref b)]) hx hb d_W_law_1788 hl (k := 2) rfl rfl (by decide) rfl (fun ls hl => ?_)
            refine lv_goto (tgt := 28) hx hb d_W_law_1791 (by decide) ?_
            exact ih_28 _ _ _ _ _ _ _ hf (by show cells + 10 + 0 + 0 + 64 * fu ≤ 655733; omega) (by show slots + 60 + 0 + 0 + 512 * fu ≤ 7128906; omega) hW (lv_sub hl [0, 3, 4, 5, 6, 7] rfl)
          · have hf := rd_t hf c98
            refine lv_aload_n hx hb d_W_law_750 rfl (lv_at hl 4 rfl) ?_
            refine lv_iconst (v := 0) hx hb d_W_law_751 (by decide) ?_
            refine al_out C9 hW (i := 0) (by decide) (show rd_in 0 1 by decide) d_W_law_752 ?_
            refine lv_iload hx hb d_W_law_753 (lv_at hl 0 rfl) ?_
            refine lv_i2l hx hb d_W_law_755 rfl ?_
            refine W.lcmp hx hb d_W_law_756 ?_
            refine lv_if_eq (tgt := 762) hx hb d_W_law_757 (by decide) (fun c99 => ?_) (fun c99 => ?_)
            · have hf := rd_t hf c99
              refine lv_goto (tgt := 1788) hx hb d_W_law_762 (by decide) ?_
              refine lv_iinc (v := v28_5 + 6) (lv' := [(5, .int (v28_5 + 6)), (7, .int r95.1), (6, .int r87.1), (4, .ref (ad 140)), (3, .ref (ad 139)), (2, .ref (ad 117)), (1, .ref (ad 0)), (0, .ref b)]) hx hb d_W_law_1788 hl (k := 2) rfl rfl (by decide) rfl (fun ls hl => ?_)
              refine lv_goto (tgt := 28) hx hb d_W_law_1791 (by decide) ?_
              exact ih_28 _ _ _ _ _ _ _ hf (by show cells + 10 + 0 + 0 + 64 * fu ≤ 655733; omega) (by show slots + 60 + 0 + 0 + 512 * fu ≤ 7128906; omega) hW (lv_sub hl [0, 3, 4, 5, 6, 7] rfl)
            · have hf := rd_f hf c99
              refine lv_iconst (v := 0) hx hb d_W_law_760 (by decide) ?_
              exact absurd (Option.some.inj hf) (by decide)
        · have hf := rd_f hf c97
          refine lv_iconst (v := 0) hx hb d_W_law_743 (by decide) ?_
          exact absurd (Option.some.inj hf) (by decide)
      have hf := rd_f hf c79
      by_cases c100 : ((xs (v28_5).toNatClampNeg) &&& 31) = 7
      · have hf := rd_t hf c100
        refine lv_tableIn (off := 720) (tgt := 765) hx hb d_W_law_45 (by rw [c100]; decide) (by rw [c100]; decide) (by rw [c100]; rfl) (by decide) ?_
        refine lv_aload_n hx hb d_W_law_765 rfl (lv_at hl 4 rfl) ?_
        refine lv_aload_n hx hb d_W_law_766 rfl (lv_at hl 5 rfl) ?_
        refine lv_iload hx hb d_W_law_767 (lv_at hl 0 rfl) ?_
        refine lv_iconst (v := 1) hx hb d_W_law_769 (by decide) ?_
        refine lv_iadd hx hb d_W_law_770 ?_
        obtain ⟨g101, hf⟩ := rd_g hf
        refine va_sld hx hb hX hbl hbA hW.2 g101 d_W_law_771 ?_
        refine lv_aload_n hx hb d_W_law_772 rfl (lv_at hl 5 rfl) ?_
        refine lv_iload hx hb d_W_law_773 (lv_at hl 0 rfl) ?_
        refine lv_iconst (v := 2) hx hb d_W_law_775 (by decide) ?_
        refine lv_iadd hx hb d_W_law_776 ?_
        obtain ⟨g102, hf⟩ := rd_g hf
        refine va_sld hx hb hX hbl hbA hW.2 g102 d_W_law_777 ?_
        refine lv_aload_n hx hb d_W_law_778 rfl (lv_at hl 5 rfl) ?_
        refine lv_iload hx hb d_W_law_779 (lv_at hl 0 rfl) ?_
        refine lv_iconst (v := 3) hx hb d_W_law_781 (by decide) ?_
        refine lv_iadd hx hb d_W_law_782 ?_
        obtain ⟨g103, hf⟩ := rd_g hf
        refine va_sld hx hb hX hbl hbA hW.2 g103 d_W_law_783 ?_
        refine lv_aload_n hx hb d_W_law_784 rfl (lv_at hl 2 rfl) ?_
        obtain ⟨r104, qr104, hf⟩ := rd_bind hf
        refine rd_callSW (As := [.ref (ad 0), .int (xs (v28_5 + 1).toNatClampNeg), .int (xs (v28_5 + 2).toNatClampNeg), .int (xs (v28_5 + 3).toNatClampNeg), .ref (ad 139)]) (rest := []) rd_gd C9 hTh hW (c_W_lock hls (xs (v28_5 + 1).toNatClampNeg) (xs (v28_5 + 2).toNatClampNeg) (xs (v28_5 + 3).toNatClampNeg) qr104) kc_W_lock ki_W_lock l_W_129 rfl ⟨Nat.le_of_ble_eq_true rfl, Nat.le_of_ble_eq_true rfl⟩ ⟨by show cells + 6 ≤ 655733; omega, by show slots + 36 ≤ 7128906; omega⟩ hl.1 rfl (Nat.le_of_ble_eq_true rfl) d_W_law_785 (fun E _ _ _ _ hex => hex.elim) (fun rr MM H locs hp hW => ?_)
        obtain ⟨rfl, rfl⟩ := hp
        refine lv_istore (lv' := [(6, .int r104.1), (5, .int v28_5), (4, .ref (ad 140)), (3, .ref (ad 139)), (2, .ref (ad 117)), (1, .ref (ad 0)), (0, .ref b)]) hx hb d_W_law_788 hl (by decide) rfl (fun ls hl => ?_)
        refine lv_aload_n hx hb d_W_law_790 rfl (lv_at hl 4 rfl) ?_
        refine lv_aload_n hx hb d_W_law_791 rfl (lv_at hl 6 rfl) ?_
        refine lv_iload hx hb d_W_law_792 (lv_at hl 1 rfl) ?_
        refine lv_iconst (v := 1) hx hb d_W_law_794 (by decide) ?_
        refine lv_iadd hx hb d_W_law_795 ?_
        obtain ⟨g105, hf⟩ := rd_g hf
        refine va_sld hx hb hX hbl hbA hW.2 g105 d_W_law_796 ?_
        refine lv_aload_n hx hb d_W_law_797 rfl (lv_at hl 6 rfl) ?_
        refine lv_iload hx hb d_W_law_798 (lv_at hl 1 rfl) ?_
        refine lv_iconst (v := 2) hx hb d_W_law_800 (by decide) ?_
        refine lv_iadd hx hb d_W_law_801 ?_
        obtain ⟨g106, hf⟩ := rd_g hf
        refine va_sld hx hb hX hbl hbA hW.2 g106 d_W_law_802 ?_
        refine lv_aload_n hx hb d_W_law_803 rfl (lv_at hl 6 rfl) ?_
        refine lv_iload hx hb d_W_law_804 (lv_at hl 1 rfl) ?_
        refine lv_iconst (v := 3) hx hb d_W_law_806 (by decide) ?_
        refine lv_iadd hx hb d_W_law_807 ?_
        obtain ⟨g107, hf⟩ := rd_g hf
        refine va_sld hx hb hX hbl hbA hW.2 g107 d_W_law_808 ?_
        obtain ⟨r108, qr108, hf⟩ := rd_bind hf
        refine rd_callVS (k := 0) (As := [.int (xs (v28_5 + 1).toNatClampNeg), .int (xs (v28_5 + 2).toNatClampNeg), .int (xs (v28_5 + 3).toNatClampNeg)]) (rest := []) lw_EN rd_gd C9 hTh hW (c_N_lock hls (xs (v28_5 + 1).toNatClampNeg) (xs (v28_5 + 2).toNatClampNeg) (xs (v28_5 + 3).toNatClampNeg) qr108) kc_N_lock ki_N_lock ks_N_lock l_W_131 rfl lt_N ce_N rfl ⟨Nat.le_of_ble_eq_true rfl, Nat.le_of_ble_eq_true rfl⟩ ⟨by show cells + 6 + 0 ≤ 655733; omega, by show slots + 36 + 0 ≤ 7128906; omega⟩ hl.1 rfl (Nat.le_of_ble_eq_true rfl) d_W_law_809 (fun E _ _ _ _ hex => hex.elim) (fun rr MM H locs hp hW => ?_)
        obtain ⟨rfl, rfl⟩ := hp
        have hW : rd_W D rd_cl (lw_L Ka) ad (fun q => s.heap.size ≤ q) s.heap (rd_pm 22 117 r104.2 r108.2) H locs := hW
        refine lv_istore (lv' := [(7, .int r108.1), (6, .int r104.1), (5, .int v28_5), (4, .ref (ad 140)), (3, .ref (ad 139)), (2, .ref (ad 117)), (1, .ref (ad 0)), (0, .ref b)]) hx hb d_W_law_812 hl (by decide) rfl (fun ls hl => ?_)
        refine lv_aload_n hx hb d_W_law_814 rfl (lv_at hl 5 rfl) ?_
        obtain ⟨r109, qr109, hf⟩ := rd_bind hf
        refine rd_callVS (k := 0) (As := []) (rest := []) lw_EN rd_gd C9 hTh hW (c_N_thrown hls qr109) kc_N_thrown ki_N_thrown ks_N_thrown l_W_102 rfl lt_N ce_N rfl ⟨Nat.le_of_ble_eq_true rfl, Nat.le_of_ble_eq_true rfl⟩ ⟨by show cells + 6 + 0 + 0 ≤ 655733; omega, by show slots + 36 + 0 + 0 ≤ 7128906; omega⟩ hl.1 rfl (Nat.le_of_ble_eq_true rfl) d_W_law_815 (fun E _ _ _ _ hex => hex.elim) (fun rr MM H locs hp hW => ?_)
        obtain ⟨rfl, rfl⟩ := hp
        rw [rd_pm_self] at hW
        refine lv_iload hx hb d_W_law_818 (lv_at hl 1 rfl) ?_
        refine lv_icmp_eq (tgt := 825) hx hb d_W_law_820 (by decide) (fun c110 => ?_) (fun c110 => ?_)
        · have hf := rd_t hf c110
          refine lv_iload hx hb d_W_law_825 (lv_at hl 1 rfl) ?_
          refine lv_if_ne (tgt := 842) hx hb d_W_law_827 (by decide) (fun c111 => ?_) (fun c111 => ?_)
          · have hf := rd_f hf c111
            refine lv_goto (tgt := 1788) hx hb d_W_law_842 (by decide) ?_
            refine lv_iinc (v := v28_5 + 6) (lv' := [(5, .int (v28_5 + 6)), (7, .int r108.1), (6, .int r104.1), (4, .ref (ad 140)), (3, .ref (ad 139)), (2, .ref (ad 117)), (1, .ref (ad 0)), (0, .ref b)]) hx hb d_W_law_1788 hl (k := 2) rfl rfl (by decide) rfl (fun ls hl => ?_)
            refine lv_goto (tgt := 28) hx hb d_W_law_1791 (by decide) ?_
            exact ih_28 _ _ _ _ _ _ _ hf (by show cells + 6 + 0 + 0 + 64 * fu ≤ 655733; omega) (by show slots + 36 + 0 + 0 + 512 * fu ≤ 7128906; omega) hW (lv_sub hl [0, 3, 4, 5, 6, 7] rfl)
          · have hf := rd_t hf c111
            refine lv_aload_n hx hb d_W_law_830 rfl (lv_at hl 4 rfl) ?_
            refine lv_iconst (v := 0) hx hb d_W_law_831 (by decide) ?_
            refine al_out C9 hW (i := 0) (by decide) (show rd_in 0 1 by decide) d_W_law_832 ?_
            refine lv_iload hx hb d_W_law_833 (lv_at hl 0 rfl) ?_
            refine lv_i2l hx hb d_W_law_835 rfl ?_
            refine W.lcmp hx hb d_W_law_836 ?_
            refine lv_if_eq (tgt := 842) hx hb d_W_law_837 (by decide) (fun c112 => ?_) (fun c112 => ?_)
            · have hf := rd_t hf c112
              refine lv_goto (tgt := 1788) hx hb d_W_law_842 (by decide) ?_
              refine lv_iinc (v := v28_5 + 6) (lv' := [(5, .int (v28_5 + 6)), (7, .int r108.1), (6, .int r104.1), (4, .ref (ad 140)), (3, .ref (ad 139)), (2, .ref (ad 117)), (1, .ref (ad 0)), (0, .ref b)]) hx hb d_W_law_1788 hl (k := 2) rfl rfl (by decide) rfl (fun ls hl => ?_)
              refine lv_goto (tgt := 28) hx hb d_W_law_1791 (by decide) ?_
              exact ih_28 _ _ _ _ _ _ _ hf (by show cells + 6 + 0 + 0 + 64 * fu ≤ 655733; omega) (by show slots + 36 + 0 + 0 + 512 * fu ≤ 7128906; omega) hW (lv_sub hl [0, 3, 4, 5, 6, 7] rfl)
            · have hf := rd_f hf c112
              refine lv_iconst (v := 0) hx hb d_W_law_840 (by decide) ?_
              exact absurd (Option.some.inj hf) (by decide)
        · have hf := rd_f hf c110
          refine lv_iconst (v := 0) hx hb d_W_law_823 (by decide) ?_
          exact absurd (Option.some.inj hf) (by decide)
      have hf := rd_f hf c100
      by_cases c113 : ((xs (v28_5).toNatClampNeg) &&& 31) = 8
      · have hf := rd_t hf c113
        refine lv_tableIn (off := 800) (tgt := 845) hx hb d_W_law_45 (by rw [c113]; decide) (by rw [c113]; decide) (by rw [c113]; rfl) (by decide) ?_
        refine lv_aload_n hx hb d_W_law_845 rfl (lv_at hl 4 rfl) ?_
        refine lv_aload_n hx hb d_W_law_846 rfl (lv_at hl 5 rfl) ?_
        refine lv_iload hx hb d_W_law_847 (lv_at hl 0 rfl) ?_
        refine lv_iconst (v := 1) hx hb d_W_law_849 (by decide) ?_
        refine lv_iadd hx hb d_W_law_850 ?_
        obtain ⟨g114, hf⟩ := rd_g hf
        refine va_sld hx hb hX hbl hbA hW.2 g114 d_W_law_851 ?_
        refine lv_aload_n hx hb d_W_law_852 rfl (lv_at hl 5 rfl) ?_
        refine lv_iload hx hb d_W_law_853 (lv_at hl 0 rfl) ?_
        refine lv_iconst (v := 2) hx hb d_W_law_855 (by decide) ?_
        refine lv_iadd hx hb d_W_law_856 ?_
        obtain ⟨g115, hf⟩ := rd_g hf
        refine va_sld hx hb hX hbl hbA hW.2 g115 d_W_law_857 ?_
        refine lv_aload_n hx hb d_W_law_858 rfl (lv_at hl 5 rfl) ?_
        refine lv_iload hx hb d_W_law_859 (lv_at hl 0 rfl) ?_
        refine lv_iconst (v := 3) hx hb d_W_law_861 (by decide) ?_
        refine lv_iadd hx hb d_W_law_862 ?_
        obtain ⟨g116, hf⟩ := rd_g hf
        refine va_sld hx hb hX hbl hbA hW.2 g116 d_W_law_863 ?_
        refine lv_aload_n hx hb d_W_law_864 rfl (lv_at hl 2 rfl) ?_
        obtain ⟨r117, qr117, hf⟩ := rd_bind hf
        refine rd_callSW (As := [.ref (ad 0), .int (xs (v28_5 + 1).toNatClampNeg), .int (xs (v28_5 + 2).toNatClampNeg), .int (xs (v28_5 + 3).toNatClampNeg), .ref (ad 139)]) (rest := []) rd_gd C9 hTh hW (c_W_renew hls (xs (v28_5 + 1).toNatClampNeg) (xs (v28_5 + 2).toNatClampNeg) (xs (v28_5 + 3).toNatClampNeg) qr117) kc_W_renew ki_W_renew l_W_132 rfl ⟨Nat.le_of_ble_eq_true rfl, Nat.le_of_ble_eq_true rfl⟩ ⟨by show cells + 10 ≤ 655733; omega, by show slots + 60 ≤ 7128906; omega⟩ hl.1 rfl (Nat.le_of_ble_eq_true rfl) d_W_law_865 (fun E _ _ _ _ hex => hex.elim) (fun rr MM H locs hp hW => ?_)
        obtain ⟨rfl, rfl⟩ := hp
        refine lv_istore (lv' := [(6, .int r117.1), (5, .int v28_5), (4, .ref (ad 140)), (3, .ref (ad 139)), (2, .ref (ad 117)), (1, .ref (ad 0)), (0, .ref b)]) hx hb d_W_law_868 hl (by decide) rfl (fun ls hl => ?_)
        refine lv_aload_n hx hb d_W_law_870 rfl (lv_at hl 4 rfl) ?_
        refine lv_aload_n hx hb d_W_law_871 rfl (lv_at hl 6 rfl) ?_
        refine lv_iload hx hb d_W_law_872 (lv_at hl 1 rfl) ?_
        refine lv_iconst (v := 1) hx hb d_W_law_874 (by decide) ?_
        refine lv_iadd hx hb d_W_law_875 ?_
        obtain ⟨g118, hf⟩ := rd_g hf
        refine va_sld hx hb hX hbl hbA hW.2 g118 d_W_law_876 ?_
        refine lv_aload_n hx hb d_W_law_877 rfl (lv_at hl 6 rfl) ?_
        refine lv_iload hx hb d_W_law_878 (lv_at hl 1 rfl) ?_
        refine lv_iconst (v := 2) hx hb d_W_law_880 (by decide) ?_
        refine lv_iadd hx hb d_W_law_881 ?_
        obtain ⟨g119, hf⟩ := rd_g hf
        refine va_sld hx hb hX hbl hbA hW.2 g119 d_W_law_882 ?_
        refine lv_aload_n hx hb d_W_law_883 rfl (lv_at hl 6 rfl) ?_
        refine lv_iload hx hb d_W_law_884 (lv_at hl 1 rfl) ?_
        refine lv_iconst (v := 3) hx hb d_W_law_886 (by decide) ?_
        refine lv_iadd hx hb d_W_law_887 ?_
        obtain ⟨g120, hf⟩ := rd_g hf
        refine va_sld hx hb hX hbl hbA hW.2 g120 d_W_law_888 ?_
        obtain ⟨r121, qr121, hf⟩ := rd_bind hf
        refine rd_callVS (k := 0) (As := [.int (xs (v28_5 + 1).toNatClampNeg), .int (xs (v28_5 + 2).toNatClampNeg), .int (xs (v28_5 + 3).toNatClampNeg)]) (rest := []) lw_EN rd_gd C9 hTh hW (c_N_renew hls (xs (v28_5 + 1).toNatClampNeg) (xs (v28_5 + 2).toNatClampNeg) (xs (v28_5 + 3).toNatClampNeg) qr121) kc_N_renew ki_N_renew ks_N_renew l_W_134 rfl lt_N ce_N rfl ⟨Nat.le_of_ble_eq_true rfl, Nat.le_of_ble_eq_true rfl⟩ ⟨by show cells + 10 + 0 ≤ 655733; omega, by show slots + 60 + 0 ≤ 7128906; omega⟩ hl.1 rfl (Nat.le_of_ble_eq_true rfl) d_W_law_889 (fun E _ _ _ _ hex => hex.elim) (fun rr MM H locs hp hW => ?_)
        obtain ⟨rfl, rfl⟩ := hp
        have hW : rd_W D rd_cl (lw_L Ka) ad (fun q => s.heap.size ≤ q) s.heap (rd_pm 22 117 r117.2 r121.2) H locs := hW
        refine lv_istore (lv' := [(7, .int r121.1), (6, .int r117.1), (5, .int v28_5), (4, .ref (ad 140)), (3, .ref (ad 139)), (2, .ref (ad 117)), (1, .ref (ad 0)), (0, .ref b)]) hx hb d_W_law_892 hl (by decide) rfl (fun ls hl => ?_)
        refine lv_aload_n hx hb d_W_law_894 rfl (lv_at hl 5 rfl) ?_
        obtain ⟨r122, qr122, hf⟩ := rd_bind hf
        refine rd_callVS (k := 0) (As := []) (rest := []) lw_EN rd_gd C9 hTh hW (c_N_thrown hls qr122) kc_N_thrown ki_N_thrown ks_N_thrown l_W_102 rfl lt_N ce_N rfl ⟨Nat.le_of_ble_eq_true rfl, Nat.le_of_ble_eq_true rfl⟩ ⟨by show cells + 10 + 0 + 0 ≤ 655733; omega, by show slots + 60 + 0 + 0 ≤ 7128906; omega⟩ hl.1 rfl (Nat.le_of_ble_eq_true rfl) d_W_law_895 (fun E _ _ _ _ hex => hex.elim) (fun rr MM H locs hp hW => ?_)
        obtain ⟨rfl, rfl⟩ := hp
        rw [rd_pm_self] at hW
        refine lv_iload hx hb d_W_law_898 (lv_at hl 1 rfl) ?_
        refine lv_icmp_eq (tgt := 905) hx hb d_W_law_900 (by decide) (fun c123 => ?_) (fun c123 => ?_)
        · have hf := rd_t hf c123
          refine lv_iload hx hb d_W_law_905 (lv_at hl 1 rfl) ?_
          refine lv_if_ne (tgt := 922) hx hb d_W_law_907 (by decide) (fun c124 => ?_) (fun c124 => ?_)
          · have hf := rd_f hf c124
            refine lv_goto (tgt := 1788) hx hb d_W_law_922 (by decide) ?_
            refine lv_iinc (v := v28_5 + 6) (lv' := [(5, .int (v28_5 + 6)), (7, .int r121.1), (6, .int r117.1), (4, .ref (ad 140)), (3, .ref (ad 139)), (2, .ref (ad 117)), (1, .ref (ad 0)), (0, .ref b)]) hx hb d_W_law_1788 hl (k := 2) rfl rfl (by decide) rfl (fun ls hl => ?_)
            refine lv_goto (tgt := 28) hx hb d_W_law_1791 (by decide) ?_
            exact ih_28 _ _ _ _ _ _ _ hf (by show cells + 10 + 0 + 0 + 64 * fu ≤ 655733; omega) (by show slots + 60 + 0 + 0 + 512 * fu ≤ 7128906; omega) hW (lv_sub hl [0, 3, 4, 5, 6, 7] rfl)
          · have hf := rd_t hf c124
            refine lv_aload_n hx hb d_W_law_910 rfl (lv_at hl 4 rfl) ?_
            refine lv_iconst (v := 0) hx hb d_W_law_911 (by decide) ?_
            refine al_out C9 hW (i := 0) (by decide) (show rd_in 0 1 by decide) d_W_law_912 ?_
            refine lv_iload hx hb d_W_law_913 (lv_at hl 0 rfl) ?_
            refine lv_i2l hx hb d_W_law_915 rfl ?_
            refine W.lcmp hx hb d_W_law_916 ?_
            refine lv_if_eq (tgt := 922) hx hb d_W_law_917 (by decide) (fun c125 => ?_) (fun c125 => ?_)
            · have hf := rd_t hf c125
              refine lv_goto (tgt := 1788) hx hb d_W_law_922 (by decide) ?_
              refine lv_iinc (v := v28_5 + 6) (lv' := [(5, .int (v28_5 + 6)), (7, .int r121.1), (6, .int r117.1), (4, .ref (ad 140)), (3, .ref (ad 139)), (2, .ref (ad 117)), (1, .ref (ad 0)), (0, .ref b)]) hx hb d_W_law_1788 hl (k := 2) rfl rfl (by decide) rfl (fun ls hl => ?_)
              refine lv_goto (tgt := 28) hx hb d_W_law_1791 (by decide) ?_
              exact ih_28 _ _ _ _ _ _ _ hf (by show cells + 10 + 0 + 0 + 64 * fu ≤ 655733; omega) (by show slots + 60 + 0 + 0 + 512 * fu ≤ 7128906; omega) hW (lv_sub hl [0, 3, 4, 5, 6, 7] rfl)
            · have hf := rd_f hf c125
              refine lv_iconst (v := 0) hx hb d_W_law_920 (by decide) ?_
              exact absurd (Option.some.inj hf) (by decide)
        · have hf := rd_f hf c123
          refine lv_iconst (v := 0) hx hb d_W_law_903 (by decide) ?_
          exact absurd (Option.some.inj hf) (by decide)
      have hf := rd_f hf c113
      by_cases c126 : ((xs (v28_5).toNatClampNeg) &&& 31) = 9
      · have hf := rd_t hf c126
        refine lv_tableIn (off := 880) (tgt := 925) hx hb d_W_law_45 (by rw [c126]; decide) (by rw [c126]; decide) (by rw [c126]; rfl) (by decide) ?_
        refine lv_aload_n hx hb d_W_law_925 rfl (lv_at hl 4 rfl) ?_
        refine lv_aload_n hx hb d_W_law_926 rfl (lv_at hl 5 rfl) ?_
        refine lv_iload hx hb d_W_law_927 (lv_at hl 0 rfl) ?_
        refine lv_iconst (v := 1) hx hb d_W_law_929 (by decide) ?_
        refine lv_iadd hx hb d_W_law_930 ?_
        obtain ⟨g127, hf⟩ := rd_g hf
        refine va_sld hx hb hX hbl hbA hW.2 g127 d_W_law_931 ?_
        refine lv_aload_n hx hb d_W_law_932 rfl (lv_at hl 5 rfl) ?_
        refine lv_iload hx hb d_W_law_933 (lv_at hl 0 rfl) ?_
        refine lv_iconst (v := 2) hx hb d_W_law_935 (by decide) ?_
        refine lv_iadd hx hb d_W_law_936 ?_
        obtain ⟨g128, hf⟩ := rd_g hf
        refine va_sld hx hb hX hbl hbA hW.2 g128 d_W_law_937 ?_
        refine lv_aload_n hx hb d_W_law_938 rfl (lv_at hl 2 rfl) ?_
        obtain ⟨r129, qr129, hf⟩ := rd_bind hf
        refine rd_callSW (As := [.ref (ad 0), .int (xs (v28_5 + 1).toNatClampNeg), .int (xs (v28_5 + 2).toNatClampNeg), .ref (ad 139)]) (rest := []) rd_gd C9 hTh hW (c_W_delete hls (xs (v28_5 + 1).toNatClampNeg) (xs (v28_5 + 2).toNatClampNeg) qr129) kc_W_delete ki_W_delete l_W_135 rfl ⟨Nat.le_of_ble_eq_true rfl, Nat.le_of_ble_eq_true rfl⟩ ⟨by show cells + 8 ≤ 655733; omega, by show slots + 48 ≤ 7128906; omega⟩ hl.1 rfl (Nat.le_of_ble_eq_true rfl) d_W_law_939 (fun E _ _ _ _ hex => hex.elim) (fun rr MM H locs hp hW => ?_)
        obtain ⟨rfl, rfl⟩ := hp
        refine lv_istore (lv' := [(6, .int r129.1), (5, .int v28_5), (4, .ref (ad 140)), (3, .ref (ad 139)), (2, .ref (ad 117)), (1, .ref (ad 0)), (0, .ref b)]) hx hb d_W_law_942 hl (by decide) rfl (fun ls hl => ?_)
        refine lv_aload_n hx hb d_W_law_944 rfl (lv_at hl 4 rfl) ?_
        refine lv_aload_n hx hb d_W_law_945 rfl (lv_at hl 6 rfl) ?_
        refine lv_iload hx hb d_W_law_946 (lv_at hl 1 rfl) ?_
        refine lv_iconst (v := 1) hx hb d_W_law_948 (by decide) ?_
        refine lv_iadd hx hb d_W_law_949 ?_
        obtain ⟨g130, hf⟩ := rd_g hf
        refine va_sld hx hb hX hbl hbA hW.2 g130 d_W_law_950 ?_
        refine lv_aload_n hx hb d_W_law_951 rfl (lv_at hl 6 rfl) ?_
        refine lv_iload hx hb d_W_law_952 (lv_at hl 1 rfl) ?_
        refine lv_iconst (v := 2) hx hb d_W_law_954 (by decide) ?_
        refine lv_iadd hx hb d_W_law_955 ?_
        obtain ⟨g131, hf⟩ := rd_g hf
        refine va_sld hx hb hX hbl hbA hW.2 g131 d_W_law_956 ?_
        obtain ⟨r132, qr132, hf⟩ := rd_bind hf
        refine rd_callVS (k := 0) (As := [.int (xs (v28_5 + 1).toNatClampNeg), .int (xs (v28_5 + 2).toNatClampNeg)]) (rest := []) lw_EN rd_gd C9 hTh hW (c_N_delete hls (xs (v28_5 + 1).toNatClampNeg) (xs (v28_5 + 2).toNatClampNeg) qr132) kc_N_delete ki_N_delete ks_N_delete l_W_138 rfl lt_N ce_N rfl ⟨Nat.le_of_ble_eq_true rfl, Nat.le_of_ble_eq_true rfl⟩ ⟨by show cells + 8 + 0 ≤ 655733; omega, by show slots + 48 + 0 ≤ 7128906; omega⟩ hl.1 rfl (Nat.le_of_ble_eq_true rfl) d_W_law_957 (fun E _ _ _ _ hex => hex.elim) (fun rr MM H locs hp hW => ?_)
        obtain ⟨rfl, rfl⟩ := hp
        have hW : rd_W D rd_cl (lw_L Ka) ad (fun q => s.heap.size ≤ q) s.heap (rd_pm 22 117 r129.2 r132.2) H locs := hW
        refine lv_istore (lv' := [(7, .int r132.1), (6, .int r129.1), (5, .int v28_5), (4, .ref (ad 140)), (3, .ref (ad 139)), (2, .ref (ad 117)), (1, .ref (ad 0)), (0, .ref b)]) hx hb d_W_law_960 hl (by decide) rfl (fun ls hl => ?_)
        refine lv_aload_n hx hb d_W_law_962 rfl (lv_at hl 5 rfl) ?_
        obtain ⟨r133, qr133, hf⟩ := rd_bind hf
        refine rd_callVS (k := 0) (As := []) (rest := []) lw_EN rd_gd C9 hTh hW (c_N_thrown hls qr133) kc_N_thrown ki_N_thrown ks_N_thrown l_W_102 rfl lt_N ce_N rfl ⟨Nat.le_of_ble_eq_true rfl, Nat.le_of_ble_eq_true rfl⟩ ⟨by show cells + 8 + 0 + 0 ≤ 655733; omega, by show slots + 48 + 0 + 0 ≤ 7128906; omega⟩ hl.1 rfl (Nat.le_of_ble_eq_true rfl) d_W_law_963 (fun E _ _ _ _ hex => hex.elim) (fun rr MM H locs hp hW => ?_)
        obtain ⟨rfl, rfl⟩ := hp
        rw [rd_pm_self] at hW
        refine lv_iload hx hb d_W_law_966 (lv_at hl 1 rfl) ?_
        refine lv_icmp_eq (tgt := 973) hx hb d_W_law_968 (by decide) (fun c134 => ?_) (fun c134 => ?_)
        · have hf := rd_t hf c134
          refine lv_iload hx hb d_W_law_973 (lv_at hl 1 rfl) ?_
          refine lv_if_ne (tgt := 990) hx hb d_W_law_975 (by decide) (fun c135 => ?_) (fun c135 => ?_)
          · have hf := rd_f hf c135
            refine lv_goto (tgt := 1788) hx hb d_W_law_990 (by decide) ?_
            refine lv_iinc (v := v28_5 + 6) (lv' := [(5, .int (v28_5 + 6)), (7, .int r132.1), (6, .int r129.1), (4, .ref (ad 140)), (3, .ref (ad 139)), (2, .ref (ad 117)), (1, .ref (ad 0)), (0, .ref b)]) hx hb d_W_law_1788 hl (k := 2) rfl rfl (by decide) rfl (fun ls hl => ?_)
            refine lv_goto (tgt := 28) hx hb d_W_law_1791 (by decide) ?_
            exact ih_28 _ _ _ _ _ _ _ hf (by show cells + 8 + 0 + 0 + 64 * fu ≤ 655733; omega) (by show slots + 48 + 0 + 0 + 512 * fu ≤ 7128906; omega) hW (lv_sub hl [0, 3, 4, 5, 6, 7] rfl)
          · have hf := rd_t hf c135
            refine lv_aload_n hx hb d_W_law_978 rfl (lv_at hl 4 rfl) ?_
            refine lv_iconst (v := 0) hx hb d_W_law_979 (by decide) ?_
            refine al_out C9 hW (i := 0) (by decide) (show rd_in 0 1 by decide) d_W_law_980 ?_
            refine lv_iload hx hb d_W_law_981 (lv_at hl 0 rfl) ?_
            refine lv_i2l hx hb d_W_law_983 rfl ?_
            refine W.lcmp hx hb d_W_law_984 ?_
            refine lv_if_eq (tgt := 990) hx hb d_W_law_985 (by decide) (fun c136 => ?_) (fun c136 => ?_)
            · have hf := rd_t hf c136
              refine lv_goto (tgt := 1788) hx hb d_W_law_990 (by decide) ?_
              refine lv_iinc (v := v28_5 + 6) (lv' := [(5, .int (v28_5 + 6)), (7, .int r132.1), (6, .int r129.1), (4, .ref (ad 140)), (3, .ref (ad 139)), (2, .ref (ad 117)), (1, .ref (ad 0)), (0, .ref b)]) hx hb d_W_law_1788 hl (k := 2) rfl rfl (by decide) rfl (fun ls hl => ?_)
              refine lv_goto (tgt := 28) hx hb d_W_law_1791 (by decide) ?_
              exact ih_28 _ _ _ _ _ _ _ hf (by show cells + 8 + 0 + 0 + 64 * fu ≤ 655733; omega) (by show slots + 48 + 0 + 0 + 512 * fu ≤ 7128906; omega) hW (lv_sub hl [0, 3, 4, 5, 6, 7] rfl)
            · have hf := rd_f hf c136
              refine lv_iconst (v := 0) hx hb d_W_law_988 (by decide) ?_
              exact absurd (Option.some.inj hf) (by decide)
        · have hf := rd_f hf c134
          refine lv_iconst (v := 0) hx hb d_W_law_971 (by decide) ?_
          exact absurd (Option.some.inj hf) (by decide)
      have hf := rd_f hf c126
      by_cases c137 : ((xs (v28_5).toNatClampNeg) &&& 31) = 10
      · have hf := rd_t hf c137
        refine lv_tableIn (off := 948) (tgt := 993) hx hb d_W_law_45 (by rw [c137]; decide) (by rw [c137]; decide) (by rw [c137]; rfl) (by decide) ?_
        refine lv_aload_n hx hb d_W_law_993 rfl (lv_at hl 4 rfl) ?_
        refine lv_aload_n hx hb d_W_law_994 rfl (lv_at hl 5 rfl) ?_
        refine lv_iload hx hb d_W_law_995 (lv_at hl 0 rfl) ?_
        refine lv_iconst (v := 1) hx hb d_W_law_997 (by decide) ?_
        refine lv_iadd hx hb d_W_law_998 ?_
        obtain ⟨g138, hf⟩ := rd_g hf
        refine va_sld hx hb hX hbl hbA hW.2 g138 d_W_law_999 ?_
        refine lv_aload_n hx hb d_W_law_1000 rfl (lv_at hl 5 rfl) ?_
        refine lv_iload hx hb d_W_law_1001 (lv_at hl 0 rfl) ?_
        refine lv_iconst (v := 2) hx hb d_W_law_1003 (by decide) ?_
        refine lv_iadd hx hb d_W_law_1004 ?_
        obtain ⟨g139, hf⟩ := rd_g hf
        refine va_sld hx hb hX hbl hbA hW.2 g139 d_W_law_1005 ?_
        refine lv_aload_n hx hb d_W_law_1006 rfl (lv_at hl 2 rfl) ?_
        obtain ⟨r140, qr140, hf⟩ := rd_bind hf
        refine rd_callSW (As := [.ref (ad 0), .int (xs (v28_5 + 1).toNatClampNeg), .int (xs (v28_5 + 2).toNatClampNeg), .ref (ad 139)]) (rest := []) rd_gd C9 hTh hW (c_W_restore hls (xs (v28_5 + 1).toNatClampNeg) (xs (v28_5 + 2).toNatClampNeg) qr140) kc_W_restore ki_W_restore l_W_139 rfl ⟨Nat.le_of_ble_eq_true rfl, Nat.le_of_ble_eq_true rfl⟩ ⟨by show cells + 6 ≤ 655733; omega, by show slots + 36 ≤ 7128906; omega⟩ hl.1 rfl (Nat.le_of_ble_eq_true rfl) d_W_law_1007 (fun E _ _ _ _ hex => hex.elim) (fun rr MM H locs hp hW => ?_)
        obtain ⟨rfl, rfl⟩ := hp
        refine lv_istore (lv' := [(6, .int r140.1), (5, .int v28_5), (4, .ref (ad 140)), (3, .ref (ad 139)), (2, .ref (ad 117)), (1, .ref (ad 0)), (0, .ref b)]) hx hb d_W_law_1010 hl (by decide) rfl (fun ls hl => ?_)
        refine lv_aload_n hx hb d_W_law_1012 rfl (lv_at hl 4 rfl) ?_
        refine lv_aload_n hx hb d_W_law_1013 rfl (lv_at hl 6 rfl) ?_
        refine lv_iload hx hb d_W_law_1014 (lv_at hl 1 rfl) ?_
        refine lv_iconst (v := 1) hx hb d_W_law_1016 (by decide) ?_
        refine lv_iadd hx hb d_W_law_1017 ?_
        obtain ⟨g141, hf⟩ := rd_g hf
        refine va_sld hx hb hX hbl hbA hW.2 g141 d_W_law_1018 ?_
        refine lv_aload_n hx hb d_W_law_1019 rfl (lv_at hl 6 rfl) ?_
        refine lv_iload hx hb d_W_law_1020 (lv_at hl 1 rfl) ?_
        refine lv_iconst (v := 2) hx hb d_W_law_1022 (by decide) ?_
        refine lv_iadd hx hb d_W_law_1023 ?_
        obtain ⟨g142, hf⟩ := rd_g hf
        refine va_sld hx hb hX hbl hbA hW.2 g142 d_W_law_1024 ?_
        obtain ⟨r143, qr143, hf⟩ := rd_bind hf
        refine rd_callVS (k := 0) (As := [.int (xs (v28_5 + 1).toNatClampNeg), .int (xs (v28_5 + 2).toNatClampNeg)]) (rest := []) lw_EN rd_gd C9 hTh hW (c_N_restore hls (xs (v28_5 + 1).toNatClampNeg) (xs (v28_5 + 2).toNatClampNeg) qr143) kc_N_restore ki_N_restore ks_N_restore l_W_141 rfl lt_N ce_N rfl ⟨Nat.le_of_ble_eq_true rfl, Nat.le_of_ble_eq_true rfl⟩ ⟨by show cells + 6 + 0 ≤ 655733; omega, by show slots + 36 + 0 ≤ 7128906; omega⟩ hl.1 rfl (Nat.le_of_ble_eq_true rfl) d_W_law_1025 (fun E _ _ _ _ hex => hex.elim) (fun rr MM H locs hp hW => ?_)
        obtain ⟨rfl, rfl⟩ := hp
        have hW : rd_W D rd_cl (lw_L Ka) ad (fun q => s.heap.size ≤ q) s.heap (rd_pm 22 117 r140.2 r143.2) H locs := hW
        refine lv_istore (lv' := [(7, .int r143.1), (6, .int r140.1), (5, .int v28_5), (4, .ref (ad 140)), (3, .ref (ad 139)), (2, .ref (ad 117)), (1, .ref (ad 0)), (0, .ref b)]) hx hb d_W_law_1028 hl (by decide) rfl (fun ls hl => ?_)
        refine lv_aload_n hx hb d_W_law_1030 rfl (lv_at hl 5 rfl) ?_
        obtain ⟨r144, qr144, hf⟩ := rd_bind hf
        refine rd_callVS (k := 0) (As := []) (rest := []) lw_EN rd_gd C9 hTh hW (c_N_thrown hls qr144) kc_N_thrown ki_N_thrown ks_N_thrown l_W_102 rfl lt_N ce_N rfl ⟨Nat.le_of_ble_eq_true rfl, Nat.le_of_ble_eq_true rfl⟩ ⟨by show cells + 6 + 0 + 0 ≤ 655733; omega, by show slots + 36 + 0 + 0 ≤ 7128906; omega⟩ hl.1 rfl (Nat.le_of_ble_eq_true rfl) d_W_law_1031 (fun E _ _ _ _ hex => hex.elim) (fun rr MM H locs hp hW => ?_)
        obtain ⟨rfl, rfl⟩ := hp
        rw [rd_pm_self] at hW
        refine lv_iload hx hb d_W_law_1034 (lv_at hl 1 rfl) ?_
        refine lv_icmp_eq (tgt := 1041) hx hb d_W_law_1036 (by decide) (fun c145 => ?_) (fun c145 => ?_)
        · have hf := rd_t hf c145
          refine lv_iload hx hb d_W_law_1041 (lv_at hl 1 rfl) ?_
          refine lv_if_ne (tgt := 1058) hx hb d_W_law_1043 (by decide) (fun c146 => ?_) (fun c146 => ?_)
          · have hf := rd_f hf c146
            refine lv_goto (tgt := 1788) hx hb d_W_law_1058 (by decide) ?_
            refine lv_iinc (v := v28_5 + 6) (lv' := [(5, .int (v28_5 + 6)), (7, .int r143.1), (6, .int r140.1), (4, .ref (ad 140)), (3, .ref (ad 139)), (2, .ref (ad 117)), (1, .ref (ad 0)), (0, .ref b)]) hx hb d_W_law_1788 hl (k := 2) rfl rfl (by decide) rfl (fun ls hl => ?_)
            refine lv_goto (tgt := 28) hx hb d_W_law_1791 (by decide) ?_
            exact ih_28 _ _ _ _ _ _ _ hf (by show cells + 6 + 0 + 0 + 64 * fu ≤ 655733; omega) (by show slots + 36 + 0 + 0 + 512 * fu ≤ 7128906; omega) hW (lv_sub hl [0, 3, 4, 5, 6, 7] rfl)
          · have hf := rd_t hf c146
            refine lv_aload_n hx hb d_W_law_1046 rfl (lv_at hl 4 rfl) ?_
            refine lv_iconst (v := 0) hx hb d_W_law_1047 (by decide) ?_
            refine al_out C9 hW (i := 0) (by decide) (show rd_in 0 1 by decide) d_W_law_1048 ?_
            refine lv_iload hx hb d_W_law_1049 (lv_at hl 0 rfl) ?_
            refine lv_i2l hx hb d_W_law_1051 rfl ?_
            refine W.lcmp hx hb d_W_law_1052 ?_
            refine lv_if_eq (tgt := 1058) hx hb d_W_law_1053 (by decide) (fun c147 => ?_) (fun c147 => ?_)
            · have hf := rd_t hf c147
              refine lv_goto (tgt := 1788) hx hb d_W_law_1058 (by decide) ?_
              refine lv_iinc (v := v28_5 + 6) (lv' := [(5, .int (v28_5 + 6)), (7, .int r143.1), (6, .int r140.1), (4, .ref (ad 140)), (3, .ref (ad 139)), (2, .ref (ad 117)), (1, .ref (ad 0)), (0, .ref b)]) hx hb d_W_law_1788 hl (k := 2) rfl rfl (by decide) rfl (fun ls hl => ?_)
              refine lv_goto (tgt := 28) hx hb d_W_law_1791 (by decide) ?_
              exact ih_28 _ _ _ _ _ _ _ hf (by show cells + 6 + 0 + 0 + 64 * fu ≤ 655733; omega) (by show slots + 36 + 0 + 0 + 512 * fu ≤ 7128906; omega) hW (lv_sub hl [0, 3, 4, 5, 6, 7] rfl)
            · have hf := rd_f hf c147
              refine lv_iconst (v := 0) hx hb d_W_law_1056 (by decide) ?_
              exact absurd (Option.some.inj hf) (by decide)
        · have hf := rd_f hf c145
          refine lv_iconst (v := 0) hx hb d_W_law_1039 (by decide) ?_
          exact absurd (Option.some.inj hf) (by decide)
      have hf := rd_f hf c137
      by_cases c148 : ((xs (v28_5).toNatClampNeg) &&& 31) = 11
      · have hf := rd_t hf c148
        refine lv_tableIn (off := 1016) (tgt := 1061) hx hb d_W_law_45 (by rw [c148]; decide) (by rw [c148]; decide) (by rw [c148]; rfl) (by decide) ?_
        refine lv_aload_n hx hb d_W_law_1061 rfl (lv_at hl 4 rfl) ?_
        refine lv_aload_n hx hb d_W_law_1062 rfl (lv_at hl 5 rfl) ?_
        refine lv_iload hx hb d_W_law_1063 (lv_at hl 0 rfl) ?_
        refine lv_iconst (v := 1) hx hb d_W_law_1065 (by decide) ?_
        refine lv_iadd hx hb d_W_law_1066 ?_
        obtain ⟨g149, hf⟩ := rd_g hf
        refine va_sld hx hb hX hbl hbA hW.2 g149 d_W_law_1067 ?_
        refine lv_aload_n hx hb d_W_law_1068 rfl (lv_at hl 5 rfl) ?_
        refine lv_iload hx hb d_W_law_1069 (lv_at hl 0 rfl) ?_
        refine lv_iconst (v := 2) hx hb d_W_law_1071 (by decide) ?_
        refine lv_iadd hx hb d_W_law_1072 ?_
        obtain ⟨g150, hf⟩ := rd_g hf
        refine va_sld hx hb hX hbl hbA hW.2 g150 d_W_law_1073 ?_
        refine lv_aload_n hx hb d_W_law_1074 rfl (lv_at hl 5 rfl) ?_
        refine lv_iload hx hb d_W_law_1075 (lv_at hl 0 rfl) ?_
        refine lv_iconst (v := 3) hx hb d_W_law_1077 (by decide) ?_
        refine lv_iadd hx hb d_W_law_1078 ?_
        obtain ⟨g151, hf⟩ := rd_g hf
        refine va_sld hx hb hX hbl hbA hW.2 g151 d_W_law_1079 ?_
        refine lv_aload_n hx hb d_W_law_1080 rfl (lv_at hl 2 rfl) ?_
        obtain ⟨r152, qr152, hf⟩ := rd_bind hf
        refine rd_callSW (As := [.ref (ad 0), .int (xs (v28_5 + 1).toNatClampNeg), .int (xs (v28_5 + 2).toNatClampNeg), .int (xs (v28_5 + 3).toNatClampNeg), .ref (ad 139)]) (rest := []) rd_gd C9 hTh hW (c_W_ask hls (xs (v28_5 + 1).toNatClampNeg) (xs (v28_5 + 2).toNatClampNeg) (xs (v28_5 + 3).toNatClampNeg) qr152) kc_W_ask ki_W_ask l_W_142 rfl ⟨Nat.le_of_ble_eq_true rfl, Nat.le_of_ble_eq_true rfl⟩ ⟨by show cells + 8 ≤ 655733; omega, by show slots + 48 ≤ 7128906; omega⟩ hl.1 rfl (Nat.le_of_ble_eq_true rfl) d_W_law_1081 (fun E _ _ _ _ hex => hex.elim) (fun rr MM H locs hp hW => ?_)
        obtain ⟨rfl, rfl⟩ := hp
        refine lv_istore (lv' := [(6, .int r152.1), (5, .int v28_5), (4, .ref (ad 140)), (3, .ref (ad 139)), (2, .ref (ad 117)), (1, .ref (ad 0)), (0, .ref b)]) hx hb d_W_law_1084 hl (by decide) rfl (fun ls hl => ?_)
        refine lv_aload_n hx hb d_W_law_1086 rfl (lv_at hl 4 rfl) ?_
        refine lv_aload_n hx hb d_W_law_1087 rfl (lv_at hl 6 rfl) ?_
        refine lv_iload hx hb d_W_law_1088 (lv_at hl 1 rfl) ?_
        refine lv_iconst (v := 1) hx hb d_W_law_1090 (by decide) ?_
        refine lv_iadd hx hb d_W_law_1091 ?_
        obtain ⟨g153, hf⟩ := rd_g hf
        refine va_sld hx hb hX hbl hbA hW.2 g153 d_W_law_1092 ?_
        refine lv_aload_n hx hb d_W_law_1093 rfl (lv_at hl 6 rfl) ?_
        refine lv_iload hx hb d_W_law_1094 (lv_at hl 1 rfl) ?_
        refine lv_iconst (v := 2) hx hb d_W_law_1096 (by decide) ?_
        refine lv_iadd hx hb d_W_law_1097 ?_
        obtain ⟨g154, hf⟩ := rd_g hf
        refine va_sld hx hb hX hbl hbA hW.2 g154 d_W_law_1098 ?_
        refine lv_aload_n hx hb d_W_law_1099 rfl (lv_at hl 6 rfl) ?_
        refine lv_iload hx hb d_W_law_1100 (lv_at hl 1 rfl) ?_
        refine lv_iconst (v := 3) hx hb d_W_law_1102 (by decide) ?_
        refine lv_iadd hx hb d_W_law_1103 ?_
        obtain ⟨g155, hf⟩ := rd_g hf
        refine va_sld hx hb hX hbl hbA hW.2 g155 d_W_law_1104 ?_
        obtain ⟨r156, qr156, hf⟩ := rd_bind hf
        refine rd_callVS (k := 0) (As := [.int (xs (v28_5 + 1).toNatClampNeg), .int (xs (v28_5 + 2).toNatClampNeg), .int (xs (v28_5 + 3).toNatClampNeg)]) (rest := []) lw_EN rd_gd C9 hTh hW (c_N_ask hls (xs (v28_5 + 1).toNatClampNeg) (xs (v28_5 + 2).toNatClampNeg) (xs (v28_5 + 3).toNatClampNeg) qr156) kc_N_ask ki_N_ask ks_N_ask l_W_144 rfl lt_N ce_N rfl ⟨Nat.le_of_ble_eq_true rfl, Nat.le_of_ble_eq_true rfl⟩ ⟨by show cells + 8 + 0 ≤ 655733; omega, by show slots + 48 + 0 ≤ 7128906; omega⟩ hl.1 rfl (Nat.le_of_ble_eq_true rfl) d_W_law_1105 (fun E _ _ _ _ hex => hex.elim) (fun rr MM H locs hp hW => ?_)
        obtain ⟨rfl, rfl⟩ := hp
        have hW : rd_W D rd_cl (lw_L Ka) ad (fun q => s.heap.size ≤ q) s.heap (rd_pm 22 117 r152.2 r156.2) H locs := hW
        refine lv_istore (lv' := [(7, .int r156.1), (6, .int r152.1), (5, .int v28_5), (4, .ref (ad 140)), (3, .ref (ad 139)), (2, .ref (ad 117)), (1, .ref (ad 0)), (0, .ref b)]) hx hb d_W_law_1108 hl (by decide) rfl (fun ls hl => ?_)
        refine lv_aload_n hx hb d_W_law_1110 rfl (lv_at hl 5 rfl) ?_
        obtain ⟨r157, qr157, hf⟩ := rd_bind hf
        refine rd_callVS (k := 0) (As := []) (rest := []) lw_EN rd_gd C9 hTh hW (c_N_thrown hls qr157) kc_N_thrown ki_N_thrown ks_N_thrown l_W_102 rfl lt_N ce_N rfl ⟨Nat.le_of_ble_eq_true rfl, Nat.le_of_ble_eq_true rfl⟩ ⟨by show cells + 8 + 0 + 0 ≤ 655733; omega, by show slots + 48 + 0 + 0 ≤ 7128906; omega⟩ hl.1 rfl (Nat.le_of_ble_eq_true rfl) d_W_law_1111 (fun E _ _ _ _ hex => hex.elim) (fun rr MM H locs hp hW => ?_)
        obtain ⟨rfl, rfl⟩ := hp
        rw [rd_pm_self] at hW
        refine lv_iload hx hb d_W_law_1114 (lv_at hl 1 rfl) ?_
        refine lv_icmp_eq (tgt := 1121) hx hb d_W_law_1116 (by decide) (fun c158 => ?_) (fun c158 => ?_)
        · have hf := rd_t hf c158
          refine lv_iload hx hb d_W_law_1121 (lv_at hl 1 rfl) ?_
          refine lv_if_ne (tgt := 1138) hx hb d_W_law_1123 (by decide) (fun c159 => ?_) (fun c159 => ?_)
          · have hf := rd_f hf c159
            refine lv_goto (tgt := 1788) hx hb d_W_law_1138 (by decide) ?_
            refine lv_iinc (v := v28_5 + 6) (lv' := [(5, .int (v28_5 + 6)), (7, .int r156.1), (6, .int r152.1), (4, .ref (ad 140)), (3, .ref (ad 139)), (2, .ref (ad 117)), (1, .ref (ad 0)), (0, .ref b)]) hx hb d_W_law_1788 hl (k := 2) rfl rfl (by decide) rfl (fun ls hl => ?_)
            refine lv_goto (tgt := 28) hx hb d_W_law_1791 (by decide) ?_
            exact ih_28 _ _ _ _ _ _ _ hf (by show cells + 8 + 0 + 0 + 64 * fu ≤ 655733; omega) (by show slots + 48 + 0 + 0 + 512 * fu ≤ 7128906; omega) hW (lv_sub hl [0, 3, 4, 5, 6, 7] rfl)
          · have hf := rd_t hf c159
            refine lv_aload_n hx hb d_W_law_1126 rfl (lv_at hl 4 rfl) ?_
            refine lv_iconst (v := 0) hx hb d_W_law_1127 (by decide) ?_
            refine al_out C9 hW (i := 0) (by decide) (show rd_in 0 1 by decide) d_W_law_1128 ?_
            refine lv_iload hx hb d_W_law_1129 (lv_at hl 0 rfl) ?_
            refine lv_i2l hx hb d_W_law_1131 rfl ?_
            refine W.lcmp hx hb d_W_law_1132 ?_
            refine lv_if_eq (tgt := 1138) hx hb d_W_law_1133 (by decide) (fun c160 => ?_) (fun c160 => ?_)
            · have hf := rd_t hf c160
              refine lv_goto (tgt := 1788) hx hb d_W_law_1138 (by decide) ?_
              refine lv_iinc (v := v28_5 + 6) (lv' := [(5, .int (v28_5 + 6)), (7, .int r156.1), (6, .int r152.1), (4, .ref (ad 140)), (3, .ref (ad 139)), (2, .ref (ad 117)), (1, .ref (ad 0)), (0, .ref b)]) hx hb d_W_law_1788 hl (k := 2) rfl rfl (by decide) rfl (fun ls hl => ?_)
              refine lv_goto (tgt := 28) hx hb d_W_law_1791 (by decide) ?_
              exact ih_28 _ _ _ _ _ _ _ hf (by show cells + 8 + 0 + 0 + 64 * fu ≤ 655733; omega) (by show slots + 48 + 0 + 0 + 512 * fu ≤ 7128906; omega) hW (lv_sub hl [0, 3, 4, 5, 6, 7] rfl)
            · have hf := rd_f hf c160
              refine lv_iconst (v := 0) hx hb d_W_law_1136 (by decide) ?_
              exact absurd (Option.some.inj hf) (by decide)
        · have hf := rd_f hf c158
          refine lv_iconst (v := 0) hx hb d_W_law_1119 (by decide) ?_
          exact absurd (Option.some.inj hf) (by decide)
      have hf := rd_f hf c148
      by_cases c161 : ((xs (v28_5).toNatClampNeg) &&& 31) = 12
      · have hf := rd_t hf c161
        refine lv_tableIn (off := 1096) (tgt := 1141) hx hb d_W_law_45 (by rw [c161]; decide) (by rw [c161]; decide) (by rw [c161]; rfl) (by decide) ?_
        refine lv_aload_n hx hb d_W_law_1141 rfl (lv_at hl 4 rfl) ?_
        refine lv_aload_n hx hb d_W_law_1142 rfl (lv_at hl 5 rfl) ?_
        refine lv_iload hx hb d_W_law_1143 (lv_at hl 0 rfl) ?_
        refine lv_iconst (v := 1) hx hb d_W_law_1145 (by decide) ?_
        refine lv_iadd hx hb d_W_law_1146 ?_
        obtain ⟨g162, hf⟩ := rd_g hf
        refine va_sld hx hb hX hbl hbA hW.2 g162 d_W_law_1147 ?_
        refine lv_aload_n hx hb d_W_law_1148 rfl (lv_at hl 5 rfl) ?_
        refine lv_iload hx hb d_W_law_1149 (lv_at hl 0 rfl) ?_
        refine lv_iconst (v := 2) hx hb d_W_law_1151 (by decide) ?_
        refine lv_iadd hx hb d_W_law_1152 ?_
        obtain ⟨g163, hf⟩ := rd_g hf
        refine va_sld hx hb hX hbl hbA hW.2 g163 d_W_law_1153 ?_
        refine lv_aload_n hx hb d_W_law_1154 rfl (lv_at hl 5 rfl) ?_
        refine lv_iload hx hb d_W_law_1155 (lv_at hl 0 rfl) ?_
        refine lv_iconst (v := 3) hx hb d_W_law_1157 (by decide) ?_
        refine lv_iadd hx hb d_W_law_1158 ?_
        obtain ⟨g164, hf⟩ := rd_g hf
        refine va_sld hx hb hX hbl hbA hW.2 g164 d_W_law_1159 ?_
        obtain ⟨z166, hz166, hf⟩ := rd_k_el hf
        refine rd_sel z166 (fun z => F0 m 1168 ls (.int z :: [.int (xs (v28_5 + 2).toNatClampNeg), .int (xs (v28_5 + 1).toNatClampNeg), .ref (ad 0)])) hz166 (fun hJ => ?_) ?_
        · refine lv_if_eq (tgt := 1167) hx hb d_W_law_1160 (by decide) (fun c165 => ?_) (fun c165 => ?_)
          · have hJ := rd_selt (g := (fun z => F0 m 1168 ls (.int z :: [.int (xs (v28_5 + 2).toNatClampNeg), .int (xs (v28_5 + 1).toNatClampNeg), .ref (ad 0)]))) hJ c165
            refine lv_iconst (v := 0) hx hb d_W_law_1167 (by decide) ?_
            exact hJ
          · have hJ := rd_self (g := (fun z => F0 m 1168 ls (.int z :: [.int (xs (v28_5 + 2).toNatClampNeg), .int (xs (v28_5 + 1).toNatClampNeg), .ref (ad 0)]))) hJ c165
            refine lv_iconst (v := 1) hx hb d_W_law_1163 (by decide) ?_
            refine lv_goto (tgt := 1168) hx hb d_W_law_1164 (by decide) ?_
            exact hJ
        refine lv_aload_n hx hb d_W_law_1168 rfl (lv_at hl 2 rfl) ?_
        obtain ⟨r167, qr167, hf⟩ := rd_bind hf
        refine rd_callSW (As := [.ref (ad 0), .int (xs (v28_5 + 1).toNatClampNeg), .int (xs (v28_5 + 2).toNatClampNeg), .int z166, .ref (ad 139)]) (rest := []) rd_gd C9 hTh hW (c_W_answer hls (xs (v28_5 + 1).toNatClampNeg) (xs (v28_5 + 2).toNatClampNeg) z166 qr167) kc_W_answer ki_W_answer l_W_145 rfl ⟨Nat.le_of_ble_eq_true rfl, Nat.le_of_ble_eq_true rfl⟩ ⟨by show cells + 5 ≤ 655733; omega, by show slots + 30 ≤ 7128906; omega⟩ hl.1 rfl (Nat.le_of_ble_eq_true rfl) d_W_law_1169 (fun E _ _ _ _ hex => hex.elim) (fun rr MM H locs hp hW => ?_)
        obtain ⟨rfl, rfl⟩ := hp
        refine lv_istore (lv' := [(6, .int r167.1), (5, .int v28_5), (4, .ref (ad 140)), (3, .ref (ad 139)), (2, .ref (ad 117)), (1, .ref (ad 0)), (0, .ref b)]) hx hb d_W_law_1172 hl (by decide) rfl (fun ls hl => ?_)
        refine lv_aload_n hx hb d_W_law_1174 rfl (lv_at hl 4 rfl) ?_
        refine lv_aload_n hx hb d_W_law_1175 rfl (lv_at hl 6 rfl) ?_
        refine lv_iload hx hb d_W_law_1176 (lv_at hl 1 rfl) ?_
        refine lv_iconst (v := 1) hx hb d_W_law_1178 (by decide) ?_
        refine lv_iadd hx hb d_W_law_1179 ?_
        obtain ⟨g168, hf⟩ := rd_g hf
        refine va_sld hx hb hX hbl hbA hW.2 g168 d_W_law_1180 ?_
        refine lv_aload_n hx hb d_W_law_1181 rfl (lv_at hl 6 rfl) ?_
        refine lv_iload hx hb d_W_law_1182 (lv_at hl 1 rfl) ?_
        refine lv_iconst (v := 2) hx hb d_W_law_1184 (by decide) ?_
        refine lv_iadd hx hb d_W_law_1185 ?_
        obtain ⟨g169, hf⟩ := rd_g hf
        refine va_sld hx hb hX hbl hbA hW.2 g169 d_W_law_1186 ?_
        refine lv_aload_n hx hb d_W_law_1187 rfl (lv_at hl 6 rfl) ?_
        refine lv_iload hx hb d_W_law_1188 (lv_at hl 1 rfl) ?_
        refine lv_iconst (v := 3) hx hb d_W_law_1190 (by decide) ?_
        refine lv_iadd hx hb d_W_law_1191 ?_
        obtain ⟨g170, hf⟩ := rd_g hf
        refine va_sld hx hb hX hbl hbA hW.2 g170 d_W_law_1192 ?_
        obtain ⟨z172, hz172, hf⟩ := rd_k_el hf
        refine rd_sel z172 (fun z => F0 m 1201 ls (.int z :: [.int (xs (v28_5 + 2).toNatClampNeg), .int (xs (v28_5 + 1).toNatClampNeg), .ref (ad 117)])) hz172 (fun hJ => ?_) ?_
        · refine lv_if_eq (tgt := 1200) hx hb d_W_law_1193 (by decide) (fun c171 => ?_) (fun c171 => ?_)
          · have hJ := rd_selt (g := (fun z => F0 m 1201 ls (.int z :: [.int (xs (v28_5 + 2).toNatClampNeg), .int (xs (v28_5 + 1).toNatClampNeg), .ref (ad 117)]))) hJ c171
            refine lv_iconst (v := 0) hx hb d_W_law_1200 (by decide) ?_
            exact hJ
          · have hJ := rd_self (g := (fun z => F0 m 1201 ls (.int z :: [.int (xs (v28_5 + 2).toNatClampNeg), .int (xs (v28_5 + 1).toNatClampNeg), .ref (ad 117)]))) hJ c171
            refine lv_iconst (v := 1) hx hb d_W_law_1196 (by decide) ?_
            refine lv_goto (tgt := 1201) hx hb d_W_law_1197 (by decide) ?_
            exact hJ
        obtain ⟨r173, qr173, hf⟩ := rd_bind hf
        refine rd_callVS (k := 0) (As := [.int (xs (v28_5 + 1).toNatClampNeg), .int (xs (v28_5 + 2).toNatClampNeg), .int z172]) (rest := []) lw_EN rd_gd C9 hTh hW (c_N_answer hls (xs (v28_5 + 1).toNatClampNeg) (xs (v28_5 + 2).toNatClampNeg) z172 qr173) kc_N_answer ki_N_answer ks_N_answer l_W_148 rfl lt_N ce_N rfl ⟨Nat.le_of_ble_eq_true rfl, Nat.le_of_ble_eq_true rfl⟩ ⟨by show cells + 5 + 0 ≤ 655733; omega, by show slots + 30 + 0 ≤ 7128906; omega⟩ hl.1 rfl (Nat.le_of_ble_eq_true rfl) d_W_law_1201 (fun E _ _ _ _ hex => hex.elim) (fun rr MM H locs hp hW => ?_)
        obtain ⟨rfl, rfl⟩ := hp
        have hW : rd_W D rd_cl (lw_L Ka) ad (fun q => s.heap.size ≤ q) s.heap (rd_pm 22 117 r167.2 r173.2) H locs := hW
        refine lv_istore (lv' := [(7, .int r173.1), (6, .int r167.1), (5, .int v28_5), (4, .ref (ad 140)), (3, .ref (ad 139)), (2, .ref (ad 117)), (1, .ref (ad 0)), (0, .ref b)]) hx hb d_W_law_1204 hl (by decide) rfl (fun ls hl => ?_)
        refine lv_aload_n hx hb d_W_law_1206 rfl (lv_at hl 5 rfl) ?_
        obtain ⟨r174, qr174, hf⟩ := rd_bind hf
        refine rd_callVS (k := 0) (As := []) (rest := []) lw_EN rd_gd C9 hTh hW (c_N_thrown hls qr174) kc_N_thrown ki_N_thrown ks_N_thrown l_W_102 rfl lt_N ce_N rfl ⟨Nat.le_of_ble_eq_true rfl, Nat.le_of_ble_eq_true rfl⟩ ⟨by show cells + 5 + 0 + 0 ≤ 655733; omega, by show slots + 30 + 0 + 0 ≤ 7128906; omega⟩ hl.1 rfl (Nat.le_of_ble_eq_true rfl) d_W_law_1207 (fun E _ _ _ _ hex => hex.elim) (fun rr MM H locs hp hW => ?_)
        obtain ⟨rfl, rfl⟩ := hp
        rw [rd_pm_self] at hW
        refine lv_iload hx hb d_W_law_1210 (lv_at hl 1 rfl) ?_
        refine lv_icmp_eq (tgt := 1217) hx hb d_W_law_1212 (by decide) (fun c175 => ?_) (fun c175 => ?_)
        · have hf := rd_t hf c175
          refine lv_iload hx hb d_W_law_1217 (lv_at hl 1 rfl) ?_
          refine lv_if_ne (tgt := 1234) hx hb d_W_law_1219 (by decide) (fun c176 => ?_) (fun c176 => ?_)
          · have hf := rd_f hf c176
            refine lv_goto (tgt := 1788) hx hb d_W_law_1234 (by decide) ?_
            refine lv_iinc (v := v28_5 + 6) (lv' := [(5, .int (v28_5 + 6)), (7, .int r173.1), (6, .int r167.1), (4, .ref (ad 140)), (3, .ref (ad 139)), (2, .ref (ad 117)), (1, .ref (ad 0)), (0, .ref b)]) hx hb d_W_law_1788 hl (k := 2) rfl rfl (by decide) rfl (fun ls hl => ?_)
            refine lv_goto (tgt := 28) hx hb d_W_law_1791 (by decide) ?_
            exact ih_28 _ _ _ _ _ _ _ hf (by show cells + 5 + 0 + 0 + 64 * fu ≤ 655733; omega) (by show slots + 30 + 0 + 0 + 512 * fu ≤ 7128906; omega) hW (lv_sub hl [0, 3, 4, 5, 6, 7] rfl)
          · have hf := rd_t hf c176
            refine lv_aload_n hx hb d_W_law_1222 rfl (lv_at hl 4 rfl) ?_
            refine lv_iconst (v := 0) hx hb d_W_law_1223 (by decide) ?_
            refine al_out C9 hW (i := 0) (by decide) (show rd_in 0 1 by decide) d_W_law_1224 ?_
            refine lv_iload hx hb d_W_law_1225 (lv_at hl 0 rfl) ?_
            refine lv_i2l hx hb d_W_law_1227 rfl ?_
            refine W.lcmp hx hb d_W_law_1228 ?_
            refine lv_if_eq (tgt := 1234) hx hb d_W_law_1229 (by decide) (fun c177 => ?_) (fun c177 => ?_)
            · have hf := rd_t hf c177
              refine lv_goto (tgt := 1788) hx hb d_W_law_1234 (by decide) ?_
              refine lv_iinc (v := v28_5 + 6) (lv' := [(5, .int (v28_5 + 6)), (7, .int r173.1), (6, .int r167.1), (4, .ref (ad 140)), (3, .ref (ad 139)), (2, .ref (ad 117)), (1, .ref (ad 0)), (0, .ref b)]) hx hb d_W_law_1788 hl (k := 2) rfl rfl (by decide) rfl (fun ls hl => ?_)
              refine lv_goto (tgt := 28) hx hb d_W_law_1791 (by decide) ?_
              exact ih_28 _ _ _ _ _ _ _ hf (by show cells + 5 + 0 + 0 + 64 * fu ≤ 655733; omega) (by show slots + 30 + 0 + 0 + 512 * fu ≤ 7128906; omega) hW (lv_sub hl [0, 3, 4, 5, 6, 7] rfl)
            · have hf := rd_f hf c177
              refine lv_iconst (v := 0) hx hb d_W_law_1232 (by decide) ?_
              exact absurd (Option.some.inj hf) (by decide)
        · have hf := rd_f hf c175
          refine lv_iconst (v := 0) hx hb d_W_law_1215 (by decide) ?_
          exact absurd (Option.some.inj hf) (by decide)
      have hf := rd_f hf c161
      by_cases c178 : ((xs (v28_5).toNatClampNeg) &&& 31) = 13
      · have hf := rd_t hf c178
        refine lv_tableIn (off := 1192) (tgt := 1237) hx hb d_W_law_45 (by rw [c178]; decide) (by rw [c178]; decide) (by rw [c178]; rfl) (by decide) ?_
        refine lv_aload_n hx hb d_W_law_1237 rfl (lv_at hl 4 rfl) ?_
        refine lv_aload_n hx hb d_W_law_1238 rfl (lv_at hl 5 rfl) ?_
        refine lv_iload hx hb d_W_law_1239 (lv_at hl 0 rfl) ?_
        refine lv_iconst (v := 1) hx hb d_W_law_1241 (by decide) ?_
        refine lv_iadd hx hb d_W_law_1242 ?_
        obtain ⟨g179, hf⟩ := rd_g hf
        refine va_sld hx hb hX hbl hbA hW.2 g179 d_W_law_1243 ?_
        refine lv_aload_n hx hb d_W_law_1244 rfl (lv_at hl 2 rfl) ?_
        obtain ⟨r180, qr180, hf⟩ := rd_bind hf
        refine rd_callSW (As := [.ref (ad 0), .int (xs (v28_5 + 1).toNatClampNeg), .ref (ad 139)]) (rest := []) rd_gd C9 hTh hW (c_W_pass hls (xs (v28_5 + 1).toNatClampNeg) qr180) kc_W_pass ki_W_pass l_W_149 rfl ⟨Nat.le_of_ble_eq_true rfl, Nat.le_of_ble_eq_true rfl⟩ ⟨by show cells + 1 ≤ 655733; omega, by show slots + 6 ≤ 7128906; omega⟩ hl.1 rfl (Nat.le_of_ble_eq_true rfl) d_W_law_1245 (fun E _ _ _ _ hex => hex.elim) (fun rr MM H locs hp hW => ?_)
        obtain ⟨rfl, rfl⟩ := hp
        refine lv_istore (lv' := [(6, .int r180.1), (5, .int v28_5), (4, .ref (ad 140)), (3, .ref (ad 139)), (2, .ref (ad 117)), (1, .ref (ad 0)), (0, .ref b)]) hx hb d_W_law_1248 hl (by decide) rfl (fun ls hl => ?_)
        refine lv_aload_n hx hb d_W_law_1250 rfl (lv_at hl 4 rfl) ?_
        refine lv_aload_n hx hb d_W_law_1251 rfl (lv_at hl 6 rfl) ?_
        refine lv_iload hx hb d_W_law_1252 (lv_at hl 1 rfl) ?_
        refine lv_iconst (v := 1) hx hb d_W_law_1254 (by decide) ?_
        refine lv_iadd hx hb d_W_law_1255 ?_
        obtain ⟨g181, hf⟩ := rd_g hf
        refine va_sld hx hb hX hbl hbA hW.2 g181 d_W_law_1256 ?_
        obtain ⟨r182, qr182, hf⟩ := rd_bind hf
        refine rd_callVS (k := 0) (As := [.int (xs (v28_5 + 1).toNatClampNeg)]) (rest := []) lw_EN rd_gd C9 hTh hW (c_N_pass hls (xs (v28_5 + 1).toNatClampNeg) qr182) kc_N_pass ki_N_pass ks_N_pass l_W_151 rfl lt_N ce_N rfl ⟨Nat.le_of_ble_eq_true rfl, Nat.le_of_ble_eq_true rfl⟩ ⟨by show cells + 1 + 0 ≤ 655733; omega, by show slots + 6 + 0 ≤ 7128906; omega⟩ hl.1 rfl (Nat.le_of_ble_eq_true rfl) d_W_law_1257 (fun E _ _ _ _ hex => hex.elim) (fun rr MM H locs hp hW => ?_)
        obtain ⟨rfl, rfl⟩ := hp
        have hW : rd_W D rd_cl (lw_L Ka) ad (fun q => s.heap.size ≤ q) s.heap (rd_pm 22 117 r180.2 r182.2) H locs := hW
        refine lv_istore (lv' := [(7, .int r182.1), (6, .int r180.1), (5, .int v28_5), (4, .ref (ad 140)), (3, .ref (ad 139)), (2, .ref (ad 117)), (1, .ref (ad 0)), (0, .ref b)]) hx hb d_W_law_1260 hl (by decide) rfl (fun ls hl => ?_)
        refine lv_aload_n hx hb d_W_law_1262 rfl (lv_at hl 5 rfl) ?_
        obtain ⟨r183, qr183, hf⟩ := rd_bind hf
        refine rd_callVS (k := 0) (As := []) (rest := []) lw_EN rd_gd C9 hTh hW (c_N_thrown hls qr183) kc_N_thrown ki_N_thrown ks_N_thrown l_W_102 rfl lt_N ce_N rfl ⟨Nat.le_of_ble_eq_true rfl, Nat.le_of_ble_eq_true rfl⟩ ⟨by show cells + 1 + 0 + 0 ≤ 655733; omega, by show slots + 6 + 0 + 0 ≤ 7128906; omega⟩ hl.1 rfl (Nat.le_of_ble_eq_true rfl) d_W_law_1263 (fun E _ _ _ _ hex => hex.elim) (fun rr MM H locs hp hW => ?_)
        obtain ⟨rfl, rfl⟩ := hp
        rw [rd_pm_self] at hW
        refine lv_iload hx hb d_W_law_1266 (lv_at hl 1 rfl) ?_
        refine lv_icmp_eq (tgt := 1273) hx hb d_W_law_1268 (by decide) (fun c184 => ?_) (fun c184 => ?_)
        · have hf := rd_t hf c184
          refine lv_iload hx hb d_W_law_1273 (lv_at hl 1 rfl) ?_
          refine lv_if_ne (tgt := 1290) hx hb d_W_law_1275 (by decide) (fun c185 => ?_) (fun c185 => ?_)
          · have hf := rd_f hf c185
            refine lv_goto (tgt := 1788) hx hb d_W_law_1290 (by decide) ?_
            refine lv_iinc (v := v28_5 + 6) (lv' := [(5, .int (v28_5 + 6)), (7, .int r182.1), (6, .int r180.1), (4, .ref (ad 140)), (3, .ref (ad 139)), (2, .ref (ad 117)), (1, .ref (ad 0)), (0, .ref b)]) hx hb d_W_law_1788 hl (k := 2) rfl rfl (by decide) rfl (fun ls hl => ?_)
            refine lv_goto (tgt := 28) hx hb d_W_law_1791 (by decide) ?_
            exact ih_28 _ _ _ _ _ _ _ hf (by show cells + 1 + 0 + 0 + 64 * fu ≤ 655733; omega) (by show slots + 6 + 0 + 0 + 512 * fu ≤ 7128906; omega) hW (lv_sub hl [0, 3, 4, 5, 6, 7] rfl)
          · have hf := rd_t hf c185
            refine lv_aload_n hx hb d_W_law_1278 rfl (lv_at hl 4 rfl) ?_
            refine lv_iconst (v := 0) hx hb d_W_law_1279 (by decide) ?_
            refine al_out C9 hW (i := 0) (by decide) (show rd_in 0 1 by decide) d_W_law_1280 ?_
            refine lv_iload hx hb d_W_law_1281 (lv_at hl 0 rfl) ?_
            refine lv_i2l hx hb d_W_law_1283 rfl ?_
            refine W.lcmp hx hb d_W_law_1284 ?_
            refine lv_if_eq (tgt := 1290) hx hb d_W_law_1285 (by decide) (fun c186 => ?_) (fun c186 => ?_)
            · have hf := rd_t hf c186
              refine lv_goto (tgt := 1788) hx hb d_W_law_1290 (by decide) ?_
              refine lv_iinc (v := v28_5 + 6) (lv' := [(5, .int (v28_5 + 6)), (7, .int r182.1), (6, .int r180.1), (4, .ref (ad 140)), (3, .ref (ad 139)), (2, .ref (ad 117)), (1, .ref (ad 0)), (0, .ref b)]) hx hb d_W_law_1788 hl (k := 2) rfl rfl (by decide) rfl (fun ls hl => ?_)
              refine lv_goto (tgt := 28) hx hb d_W_law_1791 (by decide) ?_
              exact ih_28 _ _ _ _ _ _ _ hf (by show cells + 1 + 0 + 0 + 64 * fu ≤ 655733; omega) (by show slots + 6 + 0 + 0 + 512 * fu ≤ 7128906; omega) hW (lv_sub hl [0, 3, 4, 5, 6, 7] rfl)
            · have hf := rd_f hf c186
              refine lv_iconst (v := 0) hx hb d_W_law_1288 (by decide) ?_
              exact absurd (Option.some.inj hf) (by decide)
        · have hf := rd_f hf c184
          refine lv_iconst (v := 0) hx hb d_W_law_1271 (by decide) ?_
          exact absurd (Option.some.inj hf) (by decide)
      have hf := rd_f hf c178
      by_cases c187 : ((xs (v28_5).toNatClampNeg) &&& 31) = 14
      · have hf := rd_t hf c187
        refine lv_tableIn (off := 1248) (tgt := 1293) hx hb d_W_law_45 (by rw [c187]; decide) (by rw [c187]; decide) (by rw [c187]; rfl) (by decide) ?_
        refine lv_aload_n hx hb d_W_law_1293 rfl (lv_at hl 4 rfl) ?_
        refine lv_aload_n hx hb d_W_law_1294 rfl (lv_at hl 5 rfl) ?_
        refine lv_iload hx hb d_W_law_1295 (lv_at hl 0 rfl) ?_
        refine lv_iconst (v := 1) hx hb d_W_law_1297 (by decide) ?_
        refine lv_iadd hx hb d_W_law_1298 ?_
        obtain ⟨g188, hf⟩ := rd_g hf
        refine va_sld hx hb hX hbl hbA hW.2 g188 d_W_law_1299 ?_
        refine lv_aload_n hx hb d_W_law_1300 rfl (lv_at hl 2 rfl) ?_
        obtain ⟨r189, qr189, hf⟩ := rd_bind hf
        refine rd_callSW (As := [.ref (ad 0), .int (xs (v28_5 + 1).toNatClampNeg), .ref (ad 139)]) (rest := []) rd_gd C9 hTh hW (c_W_message hls (xs (v28_5 + 1).toNatClampNeg) qr189) kc_W_message ki_W_message l_W_152 rfl ⟨Nat.le_of_ble_eq_true rfl, Nat.le_of_ble_eq_true rfl⟩ ⟨by show cells + 2 ≤ 655733; omega, by show slots + 12 ≤ 7128906; omega⟩ hl.1 rfl (Nat.le_of_ble_eq_true rfl) d_W_law_1301 (fun E _ _ _ _ hex => hex.elim) (fun rr MM H locs hp hW => ?_)
        obtain ⟨rfl, rfl⟩ := hp
        refine lv_istore (lv' := [(6, .int r189.1), (5, .int v28_5), (4, .ref (ad 140)), (3, .ref (ad 139)), (2, .ref (ad 117)), (1, .ref (ad 0)), (0, .ref b)]) hx hb d_W_law_1304 hl (by decide) rfl (fun ls hl => ?_)
        refine lv_aload_n hx hb d_W_law_1306 rfl (lv_at hl 4 rfl) ?_
        refine lv_aload_n hx hb d_W_law_1307 rfl (lv_at hl 6 rfl) ?_
        refine lv_iload hx hb d_W_law_1308 (lv_at hl 1 rfl) ?_
        refine lv_iconst (v := 1) hx hb d_W_law_1310 (by decide) ?_
        refine lv_iadd hx hb d_W_law_1311 ?_
        obtain ⟨g190, hf⟩ := rd_g hf
        refine va_sld hx hb hX hbl hbA hW.2 g190 d_W_law_1312 ?_
        obtain ⟨r191, qr191, hf⟩ := rd_bind hf
        refine rd_callVS (k := 0) (As := [.int (xs (v28_5 + 1).toNatClampNeg)]) (rest := []) lw_EN rd_gd C9 hTh hW (c_N_message hls (xs (v28_5 + 1).toNatClampNeg) qr191) kc_N_message ki_N_message ks_N_message l_W_154 rfl lt_N ce_N rfl ⟨Nat.le_of_ble_eq_true rfl, Nat.le_of_ble_eq_true rfl⟩ ⟨by show cells + 2 + 0 ≤ 655733; omega, by show slots + 12 + 0 ≤ 7128906; omega⟩ hl.1 rfl (Nat.le_of_ble_eq_true rfl) d_W_law_1313 (fun E _ _ _ _ hex => hex.elim) (fun rr MM H locs hp hW => ?_)
        obtain ⟨rfl, rfl⟩ := hp
        have hW : rd_W D rd_cl (lw_L Ka) ad (fun q => s.heap.size ≤ q) s.heap (rd_pm 22 117 r189.2 r191.2) H locs := hW
        refine lv_istore (lv' := [(7, .int r191.1), (6, .int r189.1), (5, .int v28_5), (4, .ref (ad 140)), (3, .ref (ad 139)), (2, .ref (ad 117)), (1, .ref (ad 0)), (0, .ref b)]) hx hb d_W_law_1316 hl (by decide) rfl (fun ls hl => ?_)
        refine lv_aload_n hx hb d_W_law_1318 rfl (lv_at hl 5 rfl) ?_
        obtain ⟨r192, qr192, hf⟩ := rd_bind hf
        refine rd_callVS (k := 0) (As := []) (rest := []) lw_EN rd_gd C9 hTh hW (c_N_thrown hls qr192) kc_N_thrown ki_N_thrown ks_N_thrown l_W_102 rfl lt_N ce_N rfl ⟨Nat.le_of_ble_eq_true rfl, Nat.le_of_ble_eq_true rfl⟩ ⟨by show cells + 2 + 0 + 0 ≤ 655733; omega, by show slots + 12 + 0 + 0 ≤ 7128906; omega⟩ hl.1 rfl (Nat.le_of_ble_eq_true rfl) d_W_law_1319 (fun E _ _ _ _ hex => hex.elim) (fun rr MM H locs hp hW => ?_)
        obtain ⟨rfl, rfl⟩ := hp
        rw [rd_pm_self] at hW
        refine lv_iload hx hb d_W_law_1322 (lv_at hl 1 rfl) ?_
        refine lv_icmp_eq (tgt := 1329) hx hb d_W_law_1324 (by decide) (fun c193 => ?_) (fun c193 => ?_)
        · have hf := rd_t hf c193
          refine lv_iload hx hb d_W_law_1329 (lv_at hl 1 rfl) ?_
          refine lv_if_ne (tgt := 1346) hx hb d_W_law_1331 (by decide) (fun c194 => ?_) (fun c194 => ?_)
          · have hf := rd_f hf c194
            refine lv_goto (tgt := 1788) hx hb d_W_law_1346 (by decide) ?_
            refine lv_iinc (v := v28_5 + 6) (lv' := [(5, .int (v28_5 + 6)), (7, .int r191.1), (6, .int r189.1), (4, .ref (ad 140)), (3, .ref (ad 139)), (2, .ref (ad 117)), (1, .ref (ad 0)), (0, .ref b)]) hx hb d_W_law_1788 hl (k := 2) rfl rfl (by decide) rfl (fun ls hl => ?_)
            refine lv_goto (tgt := 28) hx hb d_W_law_1791 (by decide) ?_
            exact ih_28 _ _ _ _ _ _ _ hf (by show cells + 2 + 0 + 0 + 64 * fu ≤ 655733; omega) (by show slots + 12 + 0 + 0 + 512 * fu ≤ 7128906; omega) hW (lv_sub hl [0, 3, 4, 5, 6, 7] rfl)
          · have hf := rd_t hf c194
            refine lv_aload_n hx hb d_W_law_1334 rfl (lv_at hl 4 rfl) ?_
            refine lv_iconst (v := 0) hx hb d_W_law_1335 (by decide) ?_
            refine al_out C9 hW (i := 0) (by decide) (show rd_in 0 1 by decide) d_W_law_1336 ?_
            refine lv_iload hx hb d_W_law_1337 (lv_at hl 0 rfl) ?_
            refine lv_i2l hx hb d_W_law_1339 rfl ?_
            refine W.lcmp hx hb d_W_law_1340 ?_
            refine lv_if_eq (tgt := 1346) hx hb d_W_law_1341 (by decide) (fun c195 => ?_) (fun c195 => ?_)
            · have hf := rd_t hf c195
              refine lv_goto (tgt := 1788) hx hb d_W_law_1346 (by decide) ?_
              refine lv_iinc (v := v28_5 + 6) (lv' := [(5, .int (v28_5 + 6)), (7, .int r191.1), (6, .int r189.1), (4, .ref (ad 140)), (3, .ref (ad 139)), (2, .ref (ad 117)), (1, .ref (ad 0)), (0, .ref b)]) hx hb d_W_law_1788 hl (k := 2) rfl rfl (by decide) rfl (fun ls hl => ?_)
              refine lv_goto (tgt := 28) hx hb d_W_law_1791 (by decide) ?_
              exact ih_28 _ _ _ _ _ _ _ hf (by show cells + 2 + 0 + 0 + 64 * fu ≤ 655733; omega) (by show slots + 12 + 0 + 0 + 512 * fu ≤ 7128906; omega) hW (lv_sub hl [0, 3, 4, 5, 6, 7] rfl)
            · have hf := rd_f hf c195
              refine lv_iconst (v := 0) hx hb d_W_law_1344 (by decide) ?_
              exact absurd (Option.some.inj hf) (by decide)
        · have hf := rd_f hf c193
          refine lv_iconst (v := 0) hx hb d_W_law_1327 (by decide) ?_
          exact absurd (Option.some.inj hf) (by decide)
      have hf := rd_f hf c187
      by_cases c196 : ((xs (v28_5).toNatClampNeg) &&& 31) = 15
      · have hf := rd_t hf c196
        refine lv_tableIn (off := 1304) (tgt := 1349) hx hb d_W_law_45 (by rw [c196]; decide) (by rw [c196]; decide) (by rw [c196]; rfl) (by decide) ?_
        refine lv_aload_n hx hb d_W_law_1349 rfl (lv_at hl 4 rfl) ?_
        refine lv_aload_n hx hb d_W_law_1350 rfl (lv_at hl 5 rfl) ?_
        refine lv_iload hx hb d_W_law_1351 (lv_at hl 0 rfl) ?_
        refine lv_iconst (v := 1) hx hb d_W_law_1353 (by decide) ?_
        refine lv_iadd hx hb d_W_law_1354 ?_
        obtain ⟨g197, hf⟩ := rd_g hf
        refine va_sld hx hb hX hbl hbA hW.2 g197 d_W_law_1355 ?_
        refine lv_aload_n hx hb d_W_law_1356 rfl (lv_at hl 2 rfl) ?_
        obtain ⟨r198, qr198, hf⟩ := rd_bind hf
        refine rd_callSW (As := [.ref (ad 0), .int (xs (v28_5 + 1).toNatClampNeg), .ref (ad 139)]) (rest := []) rd_gd C9 hTh hW (c_W_acknowledge hls (xs (v28_5 + 1).toNatClampNeg) qr198) kc_W_acknowledge ki_W_acknowledge l_W_155 rfl ⟨Nat.le_of_ble_eq_true rfl, Nat.le_of_ble_eq_true rfl⟩ ⟨by show cells + 2 ≤ 655733; omega, by show slots + 12 ≤ 7128906; omega⟩ hl.1 rfl (Nat.le_of_ble_eq_true rfl) d_W_law_1357 (fun E _ _ _ _ hex => hex.elim) (fun rr MM H locs hp hW => ?_)
        obtain ⟨rfl, rfl⟩ := hp
        refine lv_istore (lv' := [(6, .int r198.1), (5, .int v28_5), (4, .ref (ad 140)), (3, .ref (ad 139)), (2, .ref (ad 117)), (1, .ref (ad 0)), (0, .ref b)]) hx hb d_W_law_1360 hl (by decide) rfl (fun ls hl => ?_)
        refine lv_aload_n hx hb d_W_law_1362 rfl (lv_at hl 4 rfl) ?_
        refine lv_aload_n hx hb d_W_law_1363 rfl (lv_at hl 6 rfl) ?_
        refine lv_iload hx hb d_W_law_1364 (lv_at hl 1 rfl) ?_
        refine lv_iconst (v := 1) hx hb d_W_law_1366 (by decide) ?_
        refine lv_iadd hx hb d_W_law_1367 ?_
        obtain ⟨g199, hf⟩ := rd_g hf
        refine va_sld hx hb hX hbl hbA hW.2 g199 d_W_law_1368 ?_
        obtain ⟨r200, qr200, hf⟩ := rd_bind hf
        refine rd_callVS (k := 0) (As := [.int (xs (v28_5 + 1).toNatClampNeg)]) (rest := []) lw_EN rd_gd C9 hTh hW (c_N_acknowledge hls (xs (v28_5 + 1).toNatClampNeg) qr200) kc_N_acknowledge ki_N_acknowledge ks_N_acknowledge l_W_157 rfl lt_N ce_N rfl ⟨Nat.le_of_ble_eq_true rfl, Nat.le_of_ble_eq_true rfl⟩ ⟨by show cells + 2 + 0 ≤ 655733; omega, by show slots + 12 + 0 ≤ 7128906; omega⟩ hl.1 rfl (Nat.le_of_ble_eq_true rfl) d_W_law_1369 (fun E _ _ _ _ hex => hex.elim) (fun rr MM H locs hp hW => ?_)
        obtain ⟨rfl, rfl⟩ := hp
        have hW : rd_W D rd_cl (lw_L Ka) ad (fun q => s.heap.size ≤ q) s.heap (rd_pm 22 117 r198.2 r200.2) H locs := hW
        refine lv_istore (lv' := [(7, .int r200.1), (6, .int r198.1), (5, .int v28_5), (4, .ref (ad 140)), (3, .ref (ad 139)), (2, .ref (ad 117)), (1, .ref (ad 0)), (0, .ref b)]) hx hb d_W_law_1372 hl (by decide) rfl (fun ls hl => ?_)
        refine lv_aload_n hx hb d_W_law_1374 rfl (lv_at hl 5 rfl) ?_
        obtain ⟨r201, qr201, hf⟩ := rd_bind hf
        refine rd_callVS (k := 0) (As := []) (rest := []) lw_EN rd_gd C9 hTh hW (c_N_thrown hls qr201) kc_N_thrown ki_N_thrown ks_N_thrown l_W_102 rfl lt_N ce_N rfl ⟨Nat.le_of_ble_eq_true rfl, Nat.le_of_ble_eq_true rfl⟩ ⟨by show cells + 2 + 0 + 0 ≤ 655733; omega, by show slots + 12 + 0 + 0 ≤ 7128906; omega⟩ hl.1 rfl (Nat.le_of_ble_eq_true rfl) d_W_law_1375 (fun E _ _ _ _ hex => hex.elim) (fun rr MM H locs hp hW => ?_)
        obtain ⟨rfl, rfl⟩ := hp
        rw [rd_pm_self] at hW
        refine lv_iload hx hb d_W_law_1378 (lv_at hl 1 rfl) ?_
        refine lv_icmp_eq (tgt := 1385) hx hb d_W_law_1380 (by decide) (fun c202 => ?_) (fun c202 => ?_)
        · have hf := rd_t hf c202
          refine lv_iload hx hb d_W_law_1385 (lv_at hl 1 rfl) ?_
          refine lv_if_ne (tgt := 1402) hx hb d_W_law_1387 (by decide) (fun c203 => ?_) (fun c203 => ?_)
          · have hf := rd_f hf c203
            refine lv_goto (tgt := 1788) hx hb d_W_law_1402 (by decide) ?_
            refine lv_iinc (v := v28_5 + 6) (lv' := [(5, .int (v28_5 + 6)), (7, .int r200.1), (6, .int r198.1), (4, .ref (ad 140)), (3, .ref (ad 139)), (2, .ref (ad 117)), (1, .ref (ad 0)), (0, .ref b)]) hx hb d_W_law_1788 hl (k := 2) rfl rfl (by decide) rfl (fun ls hl => ?_)
            refine lv_goto (tgt := 28) hx hb d_W_law_1791 (by decide) ?_
            exact ih_28 _ _ _ _ _ _ _ hf (by show cells + 2 + 0 + 0 + 64 * fu ≤ 655733; omega) (by show slots + 12 + 0 + 0 + 512 * fu ≤ 7128906; omega) hW (lv_sub hl [0, 3, 4, 5, 6, 7] rfl)
          · have hf := rd_t hf c203
            refine lv_aload_n hx hb d_W_law_1390 rfl (lv_at hl 4 rfl) ?_
            refine lv_iconst (v := 0) hx hb d_W_law_1391 (by decide) ?_
            refine al_out C9 hW (i := 0) (by decide) (show rd_in 0 1 by decide) d_W_law_1392 ?_
            refine lv_iload hx hb d_W_law_1393 (lv_at hl 0 rfl) ?_
            refine lv_i2l hx hb d_W_law_1395 rfl ?_
            refine W.lcmp hx hb d_W_law_1396 ?_
            refine lv_if_eq (tgt := 1402) hx hb d_W_law_1397 (by decide) (fun c204 => ?_) (fun c204 => ?_)
            · have hf := rd_t hf c204
              refine lv_goto (tgt := 1788) hx hb d_W_law_1402 (by decide) ?_
              refine lv_iinc (v := v28_5 + 6) (lv' := [(5, .int (v28_5 + 6)), (7, .int r200.1), (6, .int r198.1), (4, .ref (ad 140)), (3, .ref (ad 139)), (2, .ref (ad 117)), (1, .ref (ad 0)), (0, .ref b)]) hx hb d_W_law_1788 hl (k := 2) rfl rfl (by decide) rfl (fun ls hl => ?_)
              refine lv_goto (tgt := 28) hx hb d_W_law_1791 (by decide) ?_
              exact ih_28 _ _ _ _ _ _ _ hf (by show cells + 2 + 0 + 0 + 64 * fu ≤ 655733; omega) (by show slots + 12 + 0 + 0 + 512 * fu ≤ 7128906; omega) hW (lv_sub hl [0, 3, 4, 5, 6, 7] rfl)
            · have hf := rd_f hf c204
              refine lv_iconst (v := 0) hx hb d_W_law_1400 (by decide) ?_
              exact absurd (Option.some.inj hf) (by decide)
        · have hf := rd_f hf c202
          refine lv_iconst (v := 0) hx hb d_W_law_1383 (by decide) ?_
          exact absurd (Option.some.inj hf) (by decide)
      have hf := rd_f hf c196
      by_cases c205 : ((xs (v28_5).toNatClampNeg) &&& 31) = 16
      · have hf := rd_t hf c205
        refine lv_tableIn (off := 1360) (tgt := 1405) hx hb d_W_law_45 (by rw [c205]; decide) (by rw [c205]; decide) (by rw [c205]; rfl) (by decide) ?_
        refine lv_aload_n hx hb d_W_law_1405 rfl (lv_at hl 4 rfl) ?_
        refine lv_aload_n hx hb d_W_law_1406 rfl (lv_at hl 5 rfl) ?_
        refine lv_iload hx hb d_W_law_1407 (lv_at hl 0 rfl) ?_
        refine lv_iconst (v := 1) hx hb d_W_law_1409 (by decide) ?_
        refine lv_iadd hx hb d_W_law_1410 ?_
        obtain ⟨g206, hf⟩ := rd_g hf
        refine va_sld hx hb hX hbl hbA hW.2 g206 d_W_law_1411 ?_
        refine lv_aload hx hb d_W_law_1412 (lv_at hl 1 rfl) ?_
        obtain ⟨r207, qr207, hf⟩ := rd_bind hf
        refine rd_callSW (As := [.ref (ad 0), .int (xs (v28_5 + 1).toNatClampNeg), .ref (ad 140)]) (rest := []) rd_gd C9 hTh hW (c_W_balance hls (xs (v28_5 + 1).toNatClampNeg) qr207) kc_W_balance ki_W_balance l_W_158 rfl ⟨Nat.le_of_ble_eq_true rfl, Nat.le_of_ble_eq_true rfl⟩ ⟨by show cells + 1 ≤ 655733; omega, by show slots + 6 ≤ 7128906; omega⟩ hl.1 rfl (Nat.le_of_ble_eq_true rfl) d_W_law_1414 (fun E _ _ _ _ hex => hex.elim) (fun rr MM H locs hp hW => ?_)
        obtain ⟨rfl, rfl⟩ := hp
        refine lv_istore (lv' := [(6, .int r207.1), (5, .int v28_5), (4, .ref (ad 140)), (3, .ref (ad 139)), (2, .ref (ad 117)), (1, .ref (ad 0)), (0, .ref b)]) hx hb d_W_law_1417 hl (by decide) rfl (fun ls hl => ?_)
        refine lv_aload_n hx hb d_W_law_1419 rfl (lv_at hl 4 rfl) ?_
        refine lv_aload_n hx hb d_W_law_1420 rfl (lv_at hl 6 rfl) ?_
        refine lv_iload hx hb d_W_law_1421 (lv_at hl 1 rfl) ?_
        refine lv_iconst (v := 1) hx hb d_W_law_1423 (by decide) ?_
        refine lv_iadd hx hb d_W_law_1424 ?_
        obtain ⟨g208, hf⟩ := rd_g hf
        refine va_sld hx hb hX hbl hbA hW.2 g208 d_W_law_1425 ?_
        obtain ⟨r209, qr209, hf⟩ := rd_bind hf
        refine rd_callVS (k := 0) (As := [.int (xs (v28_5 + 1).toNatClampNeg)]) (rest := []) lw_EN rd_gd C9 hTh hW (c_N_balance hls (xs (v28_5 + 1).toNatClampNeg) qr209) kc_N_balance ki_N_balance ks_N_balance l_W_161 rfl lt_N ce_N rfl ⟨Nat.le_of_ble_eq_true rfl, Nat.le_of_ble_eq_true rfl⟩ ⟨by show cells + 1 + 0 ≤ 655733; omega, by show slots + 6 + 0 ≤ 7128906; omega⟩ hl.1 rfl (Nat.le_of_ble_eq_true rfl) d_W_law_1426 (fun E _ _ _ _ hex => hex.elim) (fun rr MM H locs hp hW => ?_)
        obtain ⟨rfl, rfl⟩ := hp
        have hW : rd_W D rd_cl (lw_L Ka) ad (fun q => s.heap.size ≤ q) s.heap (rd_pm 22 117 r207.2 r209.2) H locs := hW
        refine lv_dstore (lv' := [(7, .double r209.1), (6, .int r207.1), (5, .int v28_5), (4, .ref (ad 140)), (3, .ref (ad 139)), (2, .ref (ad 117)), (1, .ref (ad 0)), (0, .ref b)]) hx hb d_W_law_1429 hl (by decide) rfl (fun ls hl => ?_)
        refine lv_aload_n hx hb d_W_law_1431 rfl (lv_at hl 5 rfl) ?_
        obtain ⟨r210, qr210, hf⟩ := rd_bind hf
        refine rd_callVS (k := 0) (As := []) (rest := []) lw_EN rd_gd C9 hTh hW (c_N_thrown hls qr210) kc_N_thrown ki_N_thrown ks_N_thrown l_W_102 rfl lt_N ce_N rfl ⟨Nat.le_of_ble_eq_true rfl, Nat.le_of_ble_eq_true rfl⟩ ⟨by show cells + 1 + 0 + 0 ≤ 655733; omega, by show slots + 6 + 0 + 0 ≤ 7128906; omega⟩ hl.1 rfl (Nat.le_of_ble_eq_true rfl) d_W_law_1432 (fun E _ _ _ _ hex => hex.elim) (fun rr MM H locs hp hW => ?_)
        obtain ⟨rfl, rfl⟩ := hp
        rw [rd_pm_self] at hW
        refine lv_iload hx hb d_W_law_1435 (lv_at hl 1 rfl) ?_
        refine lv_icmp_eq (tgt := 1442) hx hb d_W_law_1437 (by decide) (fun c211 => ?_) (fun c211 => ?_)
        · have hf := rd_t hf c211
          refine lv_iload hx hb d_W_law_1442 (lv_at hl 1 rfl) ?_
          refine lv_if_ne (tgt := 1479) hx hb d_W_law_1444 (by decide) (fun c212 => ?_) (fun c212 => ?_)
          · have hf := rd_f hf c212
            refine lv_goto (tgt := 1788) hx hb d_W_law_1479 (by decide) ?_
            refine lv_iinc (v := v28_5 + 6) (lv' := [(5, .int (v28_5 + 6)), (7, .double r209.1), (6, .int r207.1), (4, .ref (ad 140)), (3, .ref (ad 139)), (2, .ref (ad 117)), (1, .ref (ad 0)), (0, .ref b)]) hx hb d_W_law_1788 hl (k := 2) rfl rfl (by decide) rfl (fun ls hl => ?_)
            refine lv_goto (tgt := 28) hx hb d_W_law_1791 (by decide) ?_
            exact ih_28 _ _ _ _ _ _ _ hf (by show cells + 1 + 0 + 0 + 64 * fu ≤ 655733; omega) (by show slots + 6 + 0 + 0 + 512 * fu ≤ 7128906; omega) hW (lv_sub hl [0, 3, 4, 5, 6, 7] rfl)
          · have hf := rd_t hf c212
            refine lv_aload hx hb d_W_law_1447 (lv_at hl 3 rfl) ?_
            refine lv_iconst (v := 0) hx hb d_W_law_1449 (by decide) ?_
            refine al_outD C9 hW (i := 0) (by decide) (show rd_in 0 1 by decide) d_W_law_1450 ?_
            refine lv_dload hx hb d_W_law_1451 (lv_at hl 0 rfl) ?_
            refine lv_dcmp hx hb d_W_law_1453 ?_
            refine lv_if_eq (tgt := 1479) hx hb d_W_law_1454 (by decide) (fun c213 => ?_) (fun c213 => ?_)
            · have hf := rd_t hf c213
              refine lv_goto (tgt := 1788) hx hb d_W_law_1479 (by decide) ?_
              refine lv_iinc (v := v28_5 + 6) (lv' := [(5, .int (v28_5 + 6)), (7, .double r209.1), (6, .int r207.1), (4, .ref (ad 140)), (3, .ref (ad 139)), (2, .ref (ad 117)), (1, .ref (ad 0)), (0, .ref b)]) hx hb d_W_law_1788 hl (k := 2) rfl rfl (by decide) rfl (fun ls hl => ?_)
              refine lv_goto (tgt := 28) hx hb d_W_law_1791 (by decide) ?_
              exact ih_28 _ _ _ _ _ _ _ hf (by show cells + 1 + 0 + 0 + 64 * fu ≤ 655733; omega) (by show slots + 6 + 0 + 0 + 512 * fu ≤ 7128906; omega) hW (lv_sub hl [0, 3, 4, 5, 6, 7] rfl)
            · have hf := rd_f hf c213
              refine lv_aload hx hb d_W_law_1457 (lv_at hl 3 rfl) ?_
              refine lv_iconst (v := 0) hx hb d_W_law_1459 (by decide) ?_
              refine al_outD C9 hW (i := 0) (by decide) (show rd_in 0 1 by decide) d_W_law_1460 ?_
              refine lv_aload hx hb d_W_law_1461 (lv_at hl 3 rfl) ?_
              refine lv_iconst (v := 0) hx hb d_W_law_1463 (by decide) ?_
              refine al_outD C9 hW (i := 0) (by decide) (show rd_in 0 1 by decide) d_W_law_1464 ?_
              refine lv_dcmp hx hb d_W_law_1465 ?_
              refine lv_if_eq (tgt := 1477) hx hb d_W_law_1466 (by decide) (fun c214 => ?_) (fun c214 => ?_)
              · have hf := rd_t hf c214
                refine lv_iconst (v := 0) hx hb d_W_law_1477 (by decide) ?_
                exact absurd (Option.some.inj hf) (by decide)
              · have hf := rd_f hf c214
                refine lv_dload hx hb d_W_law_1469 (lv_at hl 0 rfl) ?_
                refine lv_dload hx hb d_W_law_1471 (lv_at hl 0 rfl) ?_
                refine lv_dcmp hx hb d_W_law_1473 ?_
                refine lv_if_ne (tgt := 1479) hx hb d_W_law_1474 (by decide) (fun c215 => ?_) (fun c215 => ?_)
                · have hf := rd_f hf c215
                  refine lv_goto (tgt := 1788) hx hb d_W_law_1479 (by decide) ?_
                  refine lv_iinc (v := v28_5 + 6) (lv' := [(5, .int (v28_5 + 6)), (7, .double r209.1), (6, .int r207.1), (4, .ref (ad 140)), (3, .ref (ad 139)), (2, .ref (ad 117)), (1, .ref (ad 0)), (0, .ref b)]) hx hb d_W_law_1788 hl (k := 2) rfl rfl (by decide) rfl (fun ls hl => ?_)
                  refine lv_goto (tgt := 28) hx hb d_W_law_1791 (by decide) ?_
                  exact ih_28 _ _ _ _ _ _ _ hf (by show cells + 1 + 0 + 0 + 64 * fu ≤ 655733; omega) (by show slots + 6 + 0 + 0 + 512 * fu ≤ 7128906; omega) hW (lv_sub hl [0, 3, 4, 5, 6, 7] rfl)
                · have hf := rd_t hf c215
                  refine lv_iconst (v := 0) hx hb d_W_law_1477 (by decide) ?_
                  exact absurd (Option.some.inj hf) (by decide)
        · have hf := rd_f hf c211
          refine lv_iconst (v := 0) hx hb d_W_law_1440 (by decide) ?_
          exact absurd (Option.some.inj hf) (by decide)
      have hf := rd_f hf c205
      by_cases c216 : ((xs (v28_5).toNatClampNeg) &&& 31) = 17
      · have hf := rd_t hf c216
        refine lv_tableIn (off := 1437) (tgt := 1482) hx hb d_W_law_45 (by rw [c216]; decide) (by rw [c216]; decide) (by rw [c216]; rfl) (by decide) ?_
        refine lv_aload_n hx hb d_W_law_1482 rfl (lv_at hl 4 rfl) ?_
        refine lv_aload_n hx hb d_W_law_1483 rfl (lv_at hl 5 rfl) ?_
        refine lv_iload hx hb d_W_law_1484 (lv_at hl 0 rfl) ?_
        refine lv_iconst (v := 1) hx hb d_W_law_1486 (by decide) ?_
        refine lv_iadd hx hb d_W_law_1487 ?_
        obtain ⟨g217, hf⟩ := rd_g hf
        refine va_sld hx hb hX hbl hbA hW.2 g217 d_W_law_1488 ?_
        refine lv_aload_n hx hb d_W_law_1489 rfl (lv_at hl 5 rfl) ?_
        refine lv_iload hx hb d_W_law_1490 (lv_at hl 0 rfl) ?_
        refine lv_iconst (v := 2) hx hb d_W_law_1492 (by decide) ?_
        refine lv_iadd hx hb d_W_law_1493 ?_
        obtain ⟨g218, hf⟩ := rd_g hf
        refine va_sld hx hb hX hbl hbA hW.2 g218 d_W_law_1494 ?_
        refine lv_aload hx hb d_W_law_1495 (lv_at hl 1 rfl) ?_
        obtain ⟨r219, qr219, hf⟩ := rd_bind hf
        refine rd_callSW (As := [.ref (ad 0), .int (xs (v28_5 + 1).toNatClampNeg), .int (xs (v28_5 + 2).toNatClampNeg), .ref (ad 140)]) (rest := []) rd_gd C9 hTh hW (c_W_paid hls (xs (v28_5 + 1).toNatClampNeg) (xs (v28_5 + 2).toNatClampNeg) qr219) kc_W_paid ki_W_paid l_W_162 rfl ⟨Nat.le_of_ble_eq_true rfl, Nat.le_of_ble_eq_true rfl⟩ ⟨by show cells + 2 ≤ 655733; omega, by show slots + 12 ≤ 7128906; omega⟩ hl.1 rfl (Nat.le_of_ble_eq_true rfl) d_W_law_1497 (fun E _ _ _ _ hex => hex.elim) (fun rr MM H locs hp hW => ?_)
        obtain ⟨rfl, rfl⟩ := hp
        refine lv_istore (lv' := [(6, .int r219.1), (5, .int v28_5), (4, .ref (ad 140)), (3, .ref (ad 139)), (2, .ref (ad 117)), (1, .ref (ad 0)), (0, .ref b)]) hx hb d_W_law_1500 hl (by decide) rfl (fun ls hl => ?_)
        refine lv_aload_n hx hb d_W_law_1502 rfl (lv_at hl 4 rfl) ?_
        refine lv_aload_n hx hb d_W_law_1503 rfl (lv_at hl 6 rfl) ?_
        refine lv_iload hx hb d_W_law_1504 (lv_at hl 1 rfl) ?_
        refine lv_iconst (v := 1) hx hb d_W_law_1506 (by decide) ?_
        refine lv_iadd hx hb d_W_law_1507 ?_
        obtain ⟨g220, hf⟩ := rd_g hf
        refine va_sld hx hb hX hbl hbA hW.2 g220 d_W_law_1508 ?_
        refine lv_aload_n hx hb d_W_law_1509 rfl (lv_at hl 6 rfl) ?_
        refine lv_iload hx hb d_W_law_1510 (lv_at hl 1 rfl) ?_
        refine lv_iconst (v := 2) hx hb d_W_law_1512 (by decide) ?_
        refine lv_iadd hx hb d_W_law_1513 ?_
        obtain ⟨g221, hf⟩ := rd_g hf
        refine va_sld hx hb hX hbl hbA hW.2 g221 d_W_law_1514 ?_
        obtain ⟨r222, qr222, hf⟩ := rd_bind hf
        refine rd_callVS (k := 0) (As := [.int (xs (v28_5 + 1).toNatClampNeg), .int (xs (v28_5 + 2).toNatClampNeg)]) (rest := []) lw_EN rd_gd C9 hTh hW (c_N_paid hls (xs (v28_5 + 1).toNatClampNeg) (xs (v28_5 + 2).toNatClampNeg) qr222) kc_N_paid ki_N_paid ks_N_paid l_W_165 rfl lt_N ce_N rfl ⟨Nat.le_of_ble_eq_true rfl, Nat.le_of_ble_eq_true rfl⟩ ⟨by show cells + 2 + 0 ≤ 655733; omega, by show slots + 12 + 0 ≤ 7128906; omega⟩ hl.1 rfl (Nat.le_of_ble_eq_true rfl) d_W_law_1515 (fun E _ _ _ _ hex => hex.elim) (fun rr MM H locs hp hW => ?_)
        obtain ⟨rfl, rfl⟩ := hp
        have hW : rd_W D rd_cl (lw_L Ka) ad (fun q => s.heap.size ≤ q) s.heap (rd_pm 22 117 r219.2 r222.2) H locs := hW
        refine lv_dstore (lv' := [(7, .double r222.1), (6, .int r219.1), (5, .int v28_5), (4, .ref (ad 140)), (3, .ref (ad 139)), (2, .ref (ad 117)), (1, .ref (ad 0)), (0, .ref b)]) hx hb d_W_law_1518 hl (by decide) rfl (fun ls hl => ?_)
        refine lv_aload_n hx hb d_W_law_1520 rfl (lv_at hl 5 rfl) ?_
        obtain ⟨r223, qr223, hf⟩ := rd_bind hf
        refine rd_callVS (k := 0) (As := []) (rest := []) lw_EN rd_gd C9 hTh hW (c_N_thrown hls qr223) kc_N_thrown ki_N_thrown ks_N_thrown l_W_102 rfl lt_N ce_N rfl ⟨Nat.le_of_ble_eq_true rfl, Nat.le_of_ble_eq_true rfl⟩ ⟨by show cells + 2 + 0 + 0 ≤ 655733; omega, by show slots + 12 + 0 + 0 ≤ 7128906; omega⟩ hl.1 rfl (Nat.le_of_ble_eq_true rfl) d_W_law_1521 (fun E _ _ _ _ hex => hex.elim) (fun rr MM H locs hp hW => ?_)
        obtain ⟨rfl, rfl⟩ := hp
        rw [rd_pm_self] at hW
        refine lv_iload hx hb d_W_law_1524 (lv_at hl 1 rfl) ?_
        refine lv_icmp_eq (tgt := 1531) hx hb d_W_law_1526 (by decide) (fun c224 => ?_) (fun c224 => ?_)
        · have hf := rd_t hf c224
          refine lv_iload hx hb d_W_law_1531 (lv_at hl 1 rfl) ?_
          refine lv_if_ne (tgt := 1568) hx hb d_W_law_1533 (by decide) (fun c225 => ?_) (fun c225 => ?_)
          · have hf := rd_f hf c225
            refine lv_goto (tgt := 1788) hx hb d_W_law_1568 (by decide) ?_
            refine lv_iinc (v := v28_5 + 6) (lv' := [(5, .int (v28_5 + 6)), (7, .double r222.1), (6, .int r219.1), (4, .ref (ad 140)), (3, .ref (ad 139)), (2, .ref (ad 117)), (1, .ref (ad 0)), (0, .ref b)]) hx hb d_W_law_1788 hl (k := 2) rfl rfl (by decide) rfl (fun ls hl => ?_)
            refine lv_goto (tgt := 28) hx hb d_W_law_1791 (by decide) ?_
            exact ih_28 _ _ _ _ _ _ _ hf (by show cells + 2 + 0 + 0 + 64 * fu ≤ 655733; omega) (by show slots + 12 + 0 + 0 + 512 * fu ≤ 7128906; omega) hW (lv_sub hl [0, 3, 4, 5, 6, 7] rfl)
          · have hf := rd_t hf c225
            refine lv_aload hx hb d_W_law_1536 (lv_at hl 3 rfl) ?_
            refine lv_iconst (v := 0) hx hb d_W_law_1538 (by decide) ?_
            refine al_outD C9 hW (i := 0) (by decide) (show rd_in 0 1 by decide) d_W_law_1539 ?_
            refine lv_dload hx hb d_W_law_1540 (lv_at hl 0 rfl) ?_
            refine lv_dcmp hx hb d_W_law_1542 ?_
            refine lv_if_eq (tgt := 1568) hx hb d_W_law_1543 (by decide) (fun c226 => ?_) (fun c226 => ?_)
            · have hf := rd_t hf c226
              refine lv_goto (tgt := 1788) hx hb d_W_law_1568 (by decide) ?_
              refine lv_iinc (v := v28_5 + 6) (lv' := [(5, .int (v28_5 + 6)), (7, .double r222.1), (6, .int r219.1), (4, .ref (ad 140)), (3, .ref (ad 139)), (2, .ref (ad 117)), (1, .ref (ad 0)), (0, .ref b)]) hx hb d_W_law_1788 hl (k := 2) rfl rfl (by decide) rfl (fun ls hl => ?_)
              refine lv_goto (tgt := 28) hx hb d_W_law_1791 (by decide) ?_
              exact ih_28 _ _ _ _ _ _ _ hf (by show cells + 2 + 0 + 0 + 64 * fu ≤ 655733; omega) (by show slots + 12 + 0 + 0 + 512 * fu ≤ 7128906; omega) hW (lv_sub hl [0, 3, 4, 5, 6, 7] rfl)
            · have hf := rd_f hf c226
              refine lv_aload hx hb d_W_law_1546 (lv_at hl 3 rfl) ?_
              refine lv_iconst (v := 0) hx hb d_W_law_1548 (by decide) ?_
              refine al_outD C9 hW (i := 0) (by decide) (show rd_in 0 1 by decide) d_W_law_1549 ?_
              refine lv_aload hx hb d_W_law_1550 (lv_at hl 3 rfl) ?_
              refine lv_iconst (v := 0) hx hb d_W_law_1552 (by decide) ?_
              refine al_outD C9 hW (i := 0) (by decide) (show rd_in 0 1 by decide) d_W_law_1553 ?_
              refine lv_dcmp hx hb d_W_law_1554 ?_
              refine lv_if_eq (tgt := 1566) hx hb d_W_law_1555 (by decide) (fun c227 => ?_) (fun c227 => ?_)
              · have hf := rd_t hf c227
                refine lv_iconst (v := 0) hx hb d_W_law_1566 (by decide) ?_
                exact absurd (Option.some.inj hf) (by decide)
              · have hf := rd_f hf c227
                refine lv_dload hx hb d_W_law_1558 (lv_at hl 0 rfl) ?_
                refine lv_dload hx hb d_W_law_1560 (lv_at hl 0 rfl) ?_
                refine lv_dcmp hx hb d_W_law_1562 ?_
                refine lv_if_ne (tgt := 1568) hx hb d_W_law_1563 (by decide) (fun c228 => ?_) (fun c228 => ?_)
                · have hf := rd_f hf c228
                  refine lv_goto (tgt := 1788) hx hb d_W_law_1568 (by decide) ?_
                  refine lv_iinc (v := v28_5 + 6) (lv' := [(5, .int (v28_5 + 6)), (7, .double r222.1), (6, .int r219.1), (4, .ref (ad 140)), (3, .ref (ad 139)), (2, .ref (ad 117)), (1, .ref (ad 0)), (0, .ref b)]) hx hb d_W_law_1788 hl (k := 2) rfl rfl (by decide) rfl (fun ls hl => ?_)
                  refine lv_goto (tgt := 28) hx hb d_W_law_1791 (by decide) ?_
                  exact ih_28 _ _ _ _ _ _ _ hf (by show cells + 2 + 0 + 0 + 64 * fu ≤ 655733; omega) (by show slots + 12 + 0 + 0 + 512 * fu ≤ 7128906; omega) hW (lv_sub hl [0, 3, 4, 5, 6, 7] rfl)
                · have hf := rd_t hf c228
                  refine lv_iconst (v := 0) hx hb d_W_law_1566 (by decide) ?_
                  exact absurd (Option.some.inj hf) (by decide)
        · have hf := rd_f hf c224
          refine lv_iconst (v := 0) hx hb d_W_law_1529 (by decide) ?_
          exact absurd (Option.some.inj hf) (by decide)
      have hf := rd_f hf c216
      by_cases c229 : ((xs (v28_5).toNatClampNeg) &&& 31) = 18
      · have hf := rd_t hf c229
        refine lv_tableIn (off := 1526) (tgt := 1571) hx hb d_W_law_45 (by rw [c229]; decide) (by rw [c229]; decide) (by rw [c229]; rfl) (by decide) ?_
        refine lv_aload_n hx hb d_W_law_1571 rfl (lv_at hl 4 rfl) ?_
        refine lv_aload_n hx hb d_W_law_1572 rfl (lv_at hl 5 rfl) ?_
        refine lv_iload hx hb d_W_law_1573 (lv_at hl 0 rfl) ?_
        refine lv_iconst (v := 1) hx hb d_W_law_1575 (by decide) ?_
        refine lv_iadd hx hb d_W_law_1576 ?_
        obtain ⟨g230, hf⟩ := rd_g hf
        refine va_sld hx hb hX hbl hbA hW.2 g230 d_W_law_1577 ?_
        refine lv_aload_n hx hb d_W_law_1578 rfl (lv_at hl 5 rfl) ?_
        refine lv_iload hx hb d_W_law_1579 (lv_at hl 0 rfl) ?_
        refine lv_iconst (v := 2) hx hb d_W_law_1581 (by decide) ?_
        refine lv_iadd hx hb d_W_law_1582 ?_
        obtain ⟨g231, hf⟩ := rd_g hf
        refine va_sld hx hb hX hbl hbA hW.2 g231 d_W_law_1583 ?_
        refine lv_aload_n hx hb d_W_law_1584 rfl (lv_at hl 2 rfl) ?_
        obtain ⟨r232, qr232, hf⟩ := rd_bind hf
        refine rd_callSW (As := [.ref (ad 0), .int (xs (v28_5 + 1).toNatClampNeg), .int (xs (v28_5 + 2).toNatClampNeg), .ref (ad 139)]) (rest := []) rd_gd C9 hTh hW (c_W_domain hls (xs (v28_5 + 1).toNatClampNeg) (xs (v28_5 + 2).toNatClampNeg) qr232) kc_W_domain ki_W_domain l_W_166 rfl ⟨Nat.le_of_ble_eq_true rfl, Nat.le_of_ble_eq_true rfl⟩ ⟨by show cells + 3 ≤ 655733; omega, by show slots + 18 ≤ 7128906; omega⟩ hl.1 rfl (Nat.le_of_ble_eq_true rfl) d_W_law_1585 (fun E _ _ _ _ hex => hex.elim) (fun rr MM H locs hp hW => ?_)
        obtain ⟨rfl, rfl⟩ := hp
        refine lv_istore (lv' := [(6, .int r232.1), (5, .int v28_5), (4, .ref (ad 140)), (3, .ref (ad 139)), (2, .ref (ad 117)), (1, .ref (ad 0)), (0, .ref b)]) hx hb d_W_law_1588 hl (by decide) rfl (fun ls hl => ?_)
        refine lv_aload_n hx hb d_W_law_1590 rfl (lv_at hl 4 rfl) ?_
        refine lv_aload_n hx hb d_W_law_1591 rfl (lv_at hl 6 rfl) ?_
        refine lv_iload hx hb d_W_law_1592 (lv_at hl 1 rfl) ?_
        refine lv_iconst (v := 1) hx hb d_W_law_1594 (by decide) ?_
        refine lv_iadd hx hb d_W_law_1595 ?_
        obtain ⟨g233, hf⟩ := rd_g hf
        refine va_sld hx hb hX hbl hbA hW.2 g233 d_W_law_1596 ?_
        refine lv_aload_n hx hb d_W_law_1597 rfl (lv_at hl 6 rfl) ?_
        refine lv_iload hx hb d_W_law_1598 (lv_at hl 1 rfl) ?_
        refine lv_iconst (v := 2) hx hb d_W_law_1600 (by decide) ?_
        refine lv_iadd hx hb d_W_law_1601 ?_
        obtain ⟨g234, hf⟩ := rd_g hf
        refine va_sld hx hb hX hbl hbA hW.2 g234 d_W_law_1602 ?_
        obtain ⟨r235, qr235, hf⟩ := rd_bind hf
        refine rd_callVS (k := 0) (As := [.int (xs (v28_5 + 1).toNatClampNeg), .int (xs (v28_5 + 2).toNatClampNeg)]) (rest := []) lw_EN rd_gd C9 hTh hW (c_N_domain hls (xs (v28_5 + 1).toNatClampNeg) (xs (v28_5 + 2).toNatClampNeg) qr235) kc_N_domain ki_N_domain ks_N_domain l_W_168 rfl lt_N ce_N rfl ⟨Nat.le_of_ble_eq_true rfl, Nat.le_of_ble_eq_true rfl⟩ ⟨by show cells + 3 + 0 ≤ 655733; omega, by show slots + 18 + 0 ≤ 7128906; omega⟩ hl.1 rfl (Nat.le_of_ble_eq_true rfl) d_W_law_1603 (fun E _ _ _ _ hex => hex.elim) (fun rr MM H locs hp hW => ?_)
        obtain ⟨rfl, rfl⟩ := hp
        have hW : rd_W D rd_cl (lw_L Ka) ad (fun q => s.heap.size ≤ q) s.heap (rd_pm 22 117 r232.2 r235.2) H locs := hW
        refine lv_istore (lv' := [(7, .int r235.1), (6, .int r232.1), (5, .int v28_5), (4, .ref (ad 140)), (3, .ref (ad 139)), (2, .ref (ad 117)), (1, .ref (ad 0)), (0, .ref b)]) hx hb d_W_law_1606 hl (by decide) rfl (fun ls hl => ?_)
        refine lv_aload_n hx hb d_W_law_1608 rfl (lv_at hl 5 rfl) ?_
        obtain ⟨r236, qr236, hf⟩ := rd_bind hf
        refine rd_callVS (k := 0) (As := []) (rest := []) lw_EN rd_gd C9 hTh hW (c_N_thrown hls qr236) kc_N_thrown ki_N_thrown ks_N_thrown l_W_102 rfl lt_N ce_N rfl ⟨Nat.le_of_ble_eq_true rfl, Nat.le_of_ble_eq_true rfl⟩ ⟨by show cells + 3 + 0 + 0 ≤ 655733; omega, by show slots + 18 + 0 + 0 ≤ 7128906; omega⟩ hl.1 rfl (Nat.le_of_ble_eq_true rfl) d_W_law_1609 (fun E _ _ _ _ hex => hex.elim) (fun rr MM H locs hp hW => ?_)
        obtain ⟨rfl, rfl⟩ := hp
        rw [rd_pm_self] at hW
        refine lv_iload hx hb d_W_law_1612 (lv_at hl 1 rfl) ?_
        refine lv_icmp_eq (tgt := 1619) hx hb d_W_law_1614 (by decide) (fun c237 => ?_) (fun c237 => ?_)
        · have hf := rd_t hf c237
          refine lv_iload hx hb d_W_law_1619 (lv_at hl 1 rfl) ?_
          refine lv_if_ne (tgt := 1636) hx hb d_W_law_1621 (by decide) (fun c238 => ?_) (fun c238 => ?_)
          · have hf := rd_f hf c238
            refine lv_goto (tgt := 1788) hx hb d_W_law_1636 (by decide) ?_
            refine lv_iinc (v := v28_5 + 6) (lv' := [(5, .int (v28_5 + 6)), (7, .int r235.1), (6, .int r232.1), (4, .ref (ad 140)), (3, .ref (ad 139)), (2, .ref (ad 117)), (1, .ref (ad 0)), (0, .ref b)]) hx hb d_W_law_1788 hl (k := 2) rfl rfl (by decide) rfl (fun ls hl => ?_)
            refine lv_goto (tgt := 28) hx hb d_W_law_1791 (by decide) ?_
            exact ih_28 _ _ _ _ _ _ _ hf (by show cells + 3 + 0 + 0 + 64 * fu ≤ 655733; omega) (by show slots + 18 + 0 + 0 + 512 * fu ≤ 7128906; omega) hW (lv_sub hl [0, 3, 4, 5, 6, 7] rfl)
          · have hf := rd_t hf c238
            refine lv_aload_n hx hb d_W_law_1624 rfl (lv_at hl 4 rfl) ?_
            refine lv_iconst (v := 0) hx hb d_W_law_1625 (by decide) ?_
            refine al_out C9 hW (i := 0) (by decide) (show rd_in 0 1 by decide) d_W_law_1626 ?_
            refine lv_iload hx hb d_W_law_1627 (lv_at hl 0 rfl) ?_
            refine lv_i2l hx hb d_W_law_1629 rfl ?_
            refine W.lcmp hx hb d_W_law_1630 ?_
            refine lv_if_eq (tgt := 1636) hx hb d_W_law_1631 (by decide) (fun c239 => ?_) (fun c239 => ?_)
            · have hf := rd_t hf c239
              refine lv_goto (tgt := 1788) hx hb d_W_law_1636 (by decide) ?_
              refine lv_iinc (v := v28_5 + 6) (lv' := [(5, .int (v28_5 + 6)), (7, .int r235.1), (6, .int r232.1), (4, .ref (ad 140)), (3, .ref (ad 139)), (2, .ref (ad 117)), (1, .ref (ad 0)), (0, .ref b)]) hx hb d_W_law_1788 hl (k := 2) rfl rfl (by decide) rfl (fun ls hl => ?_)
              refine lv_goto (tgt := 28) hx hb d_W_law_1791 (by decide) ?_
              exact ih_28 _ _ _ _ _ _ _ hf (by show cells + 3 + 0 + 0 + 64 * fu ≤ 655733; omega) (by show slots + 18 + 0 + 0 + 512 * fu ≤ 7128906; omega) hW (lv_sub hl [0, 3, 4, 5, 6, 7] rfl)
            · have hf := rd_f hf c239
              refine lv_iconst (v := 0) hx hb d_W_law_1634 (by decide) ?_
              exact absurd (Option.some.inj hf) (by decide)
        · have hf := rd_f hf c237
          refine lv_iconst (v := 0) hx hb d_W_law_1617 (by decide) ?_
          exact absurd (Option.some.inj hf) (by decide)
      have hf := rd_f hf c229
      by_cases c240 : ((xs (v28_5).toNatClampNeg) &&& 31) = 19
      · have hf := rd_t hf c240
        refine lv_tableIn (off := 1594) (tgt := 1639) hx hb d_W_law_45 (by rw [c240]; decide) (by rw [c240]; decide) (by rw [c240]; rfl) (by decide) ?_
        refine lv_aload_n hx hb d_W_law_1639 rfl (lv_at hl 4 rfl) ?_
        refine lv_aload_n hx hb d_W_law_1640 rfl (lv_at hl 5 rfl) ?_
        refine lv_iload hx hb d_W_law_1641 (lv_at hl 0 rfl) ?_
        refine lv_iconst (v := 1) hx hb d_W_law_1643 (by decide) ?_
        refine lv_iadd hx hb d_W_law_1644 ?_
        obtain ⟨g241, hf⟩ := rd_g hf
        refine va_sld hx hb hX hbl hbA hW.2 g241 d_W_law_1645 ?_
        refine lv_aload_n hx hb d_W_law_1646 rfl (lv_at hl 5 rfl) ?_
        refine lv_iload hx hb d_W_law_1647 (lv_at hl 0 rfl) ?_
        refine lv_iconst (v := 2) hx hb d_W_law_1649 (by decide) ?_
        refine lv_iadd hx hb d_W_law_1650 ?_
        obtain ⟨g242, hf⟩ := rd_g hf
        refine va_sld hx hb hX hbl hbA hW.2 g242 d_W_law_1651 ?_
        refine lv_aload_n hx hb d_W_law_1652 rfl (lv_at hl 2 rfl) ?_
        obtain ⟨r243, qr243, hf⟩ := rd_bind hf
        refine rd_callSW (As := [.ref (ad 0), .int (xs (v28_5 + 1).toNatClampNeg), .int (xs (v28_5 + 2).toNatClampNeg), .ref (ad 139)]) (rest := []) rd_gd C9 hTh hW (c_W_thing hls (xs (v28_5 + 1).toNatClampNeg) (xs (v28_5 + 2).toNatClampNeg) qr243) kc_W_thing ki_W_thing l_W_169 rfl ⟨Nat.le_of_ble_eq_true rfl, Nat.le_of_ble_eq_true rfl⟩ ⟨by show cells + 3 ≤ 655733; omega, by show slots + 18 ≤ 7128906; omega⟩ hl.1 rfl (Nat.le_of_ble_eq_true rfl) d_W_law_1653 (fun E _ _ _ _ hex => hex.elim) (fun rr MM H locs hp hW => ?_)
        obtain ⟨rfl, rfl⟩ := hp
        refine lv_istore (lv' := [(6, .int r243.1), (5, .int v28_5), (4, .ref (ad 140)), (3, .ref (ad 139)), (2, .ref (ad 117)), (1, .ref (ad 0)), (0, .ref b)]) hx hb d_W_law_1656 hl (by decide) rfl (fun ls hl => ?_)
        refine lv_aload_n hx hb d_W_law_1658 rfl (lv_at hl 4 rfl) ?_
        refine lv_aload_n hx hb d_W_law_1659 rfl (lv_at hl 6 rfl) ?_
        refine lv_iload hx hb d_W_law_1660 (lv_at hl 1 rfl) ?_
        refine lv_iconst (v := 1) hx hb d_W_law_1662 (by decide) ?_
        refine lv_iadd hx hb d_W_law_1663 ?_
        obtain ⟨g244, hf⟩ := rd_g hf
        refine va_sld hx hb hX hbl hbA hW.2 g244 d_W_law_1664 ?_
        refine lv_aload_n hx hb d_W_law_1665 rfl (lv_at hl 6 rfl) ?_
        refine lv_iload hx hb d_W_law_1666 (lv_at hl 1 rfl) ?_
        refine lv_iconst (v := 2) hx hb d_W_law_1668 (by decide) ?_
        refine lv_iadd hx hb d_W_law_1669 ?_
        obtain ⟨g245, hf⟩ := rd_g hf
        refine va_sld hx hb hX hbl hbA hW.2 g245 d_W_law_1670 ?_
        obtain ⟨r246, qr246, hf⟩ := rd_bind hf
        refine rd_callVS (k := 0) (As := [.int (xs (v28_5 + 1).toNatClampNeg), .int (xs (v28_5 + 2).toNatClampNeg)]) (rest := []) lw_EN rd_gd C9 hTh hW (c_N_thing hls (xs (v28_5 + 1).toNatClampNeg) (xs (v28_5 + 2).toNatClampNeg) qr246) kc_N_thing ki_N_thing ks_N_thing l_W_171 rfl lt_N ce_N rfl ⟨Nat.le_of_ble_eq_true rfl, Nat.le_of_ble_eq_true rfl⟩ ⟨by show cells + 3 + 0 ≤ 655733; omega, by show slots + 18 + 0 ≤ 7128906; omega⟩ hl.1 rfl (Nat.le_of_ble_eq_true rfl) d_W_law_1671 (fun E _ _ _ _ hex => hex.elim) (fun rr MM H locs hp hW => ?_)
        obtain ⟨rfl, rfl⟩ := hp
        have hW : rd_W D rd_cl (lw_L Ka) ad (fun q => s.heap.size ≤ q) s.heap (rd_pm 22 117 r243.2 r246.2) H locs := hW
        refine lv_istore (lv' := [(7, .int r246.1), (6, .int r243.1), (5, .int v28_5), (4, .ref (ad 140)), (3, .ref (ad 139)), (2, .ref (ad 117)), (1, .ref (ad 0)), (0, .ref b)]) hx hb d_W_law_1674 hl (by decide) rfl (fun ls hl => ?_)
        refine lv_aload_n hx hb d_W_law_1676 rfl (lv_at hl 5 rfl) ?_
        obtain ⟨r247, qr247, hf⟩ := rd_bind hf
        refine rd_callVS (k := 0) (As := []) (rest := []) lw_EN rd_gd C9 hTh hW (c_N_thrown hls qr247) kc_N_thrown ki_N_thrown ks_N_thrown l_W_102 rfl lt_N ce_N rfl ⟨Nat.le_of_ble_eq_true rfl, Nat.le_of_ble_eq_true rfl⟩ ⟨by show cells + 3 + 0 + 0 ≤ 655733; omega, by show slots + 18 + 0 + 0 ≤ 7128906; omega⟩ hl.1 rfl (Nat.le_of_ble_eq_true rfl) d_W_law_1677 (fun E _ _ _ _ hex => hex.elim) (fun rr MM H locs hp hW => ?_)
        obtain ⟨rfl, rfl⟩ := hp
        rw [rd_pm_self] at hW
        refine lv_iload hx hb d_W_law_1680 (lv_at hl 1 rfl) ?_
        refine lv_icmp_eq (tgt := 1687) hx hb d_W_law_1682 (by decide) (fun c248 => ?_) (fun c248 => ?_)
        · have hf := rd_t hf c248
          refine lv_iload hx hb d_W_law_1687 (lv_at hl 1 rfl) ?_
          refine lv_if_ne (tgt := 1704) hx hb d_W_law_1689 (by decide) (fun c249 => ?_) (fun c249 => ?_)
          · have hf := rd_f hf c249
            refine lv_goto (tgt := 1788) hx hb d_W_law_1704 (by decide) ?_
            refine lv_iinc (v := v28_5 + 6) (lv' := [(5, .int (v28_5 + 6)), (7, .int r246.1), (6, .int r243.1), (4, .ref (ad 140)), (3, .ref (ad 139)), (2, .ref (ad 117)), (1, .ref (ad 0)), (0, .ref b)]) hx hb d_W_law_1788 hl (k := 2) rfl rfl (by decide) rfl (fun ls hl => ?_)
            refine lv_goto (tgt := 28) hx hb d_W_law_1791 (by decide) ?_
            exact ih_28 _ _ _ _ _ _ _ hf (by show cells + 3 + 0 + 0 + 64 * fu ≤ 655733; omega) (by show slots + 18 + 0 + 0 + 512 * fu ≤ 7128906; omega) hW (lv_sub hl [0, 3, 4, 5, 6, 7] rfl)
          · have hf := rd_t hf c249
            refine lv_aload_n hx hb d_W_law_1692 rfl (lv_at hl 4 rfl) ?_
            refine lv_iconst (v := 0) hx hb d_W_law_1693 (by decide) ?_
            refine al_out C9 hW (i := 0) (by decide) (show rd_in 0 1 by decide) d_W_law_1694 ?_
            refine lv_iload hx hb d_W_law_1695 (lv_at hl 0 rfl) ?_
            refine lv_i2l hx hb d_W_law_1697 rfl ?_
            refine W.lcmp hx hb d_W_law_1698 ?_
            refine lv_if_eq (tgt := 1704) hx hb d_W_law_1699 (by decide) (fun c250 => ?_) (fun c250 => ?_)
            · have hf := rd_t hf c250
              refine lv_goto (tgt := 1788) hx hb d_W_law_1704 (by decide) ?_
              refine lv_iinc (v := v28_5 + 6) (lv' := [(5, .int (v28_5 + 6)), (7, .int r246.1), (6, .int r243.1), (4, .ref (ad 140)), (3, .ref (ad 139)), (2, .ref (ad 117)), (1, .ref (ad 0)), (0, .ref b)]) hx hb d_W_law_1788 hl (k := 2) rfl rfl (by decide) rfl (fun ls hl => ?_)
              refine lv_goto (tgt := 28) hx hb d_W_law_1791 (by decide) ?_
              exact ih_28 _ _ _ _ _ _ _ hf (by show cells + 3 + 0 + 0 + 64 * fu ≤ 655733; omega) (by show slots + 18 + 0 + 0 + 512 * fu ≤ 7128906; omega) hW (lv_sub hl [0, 3, 4, 5, 6, 7] rfl)
            · have hf := rd_f hf c250
              refine lv_iconst (v := 0) hx hb d_W_law_1702 (by decide) ?_
              exact absurd (Option.some.inj hf) (by decide)
        · have hf := rd_f hf c248
          refine lv_iconst (v := 0) hx hb d_W_law_1685 (by decide) ?_
          exact absurd (Option.some.inj hf) (by decide)
      have hf := rd_f hf c240
      by_cases c251 : ((xs (v28_5).toNatClampNeg) &&& 31) = 20
      · have hf := rd_t hf c251
        refine lv_tableIn (off := 1662) (tgt := 1707) hx hb d_W_law_45 (by rw [c251]; decide) (by rw [c251]; decide) (by rw [c251]; rfl) (by decide) ?_
        refine lv_aload_n hx hb d_W_law_1707 rfl (lv_at hl 4 rfl) ?_
        refine lv_aload_n hx hb d_W_law_1708 rfl (lv_at hl 5 rfl) ?_
        refine lv_iload hx hb d_W_law_1709 (lv_at hl 0 rfl) ?_
        refine lv_iconst (v := 1) hx hb d_W_law_1711 (by decide) ?_
        refine lv_iadd hx hb d_W_law_1712 ?_
        obtain ⟨g252, hf⟩ := rd_g hf
        refine va_sld hx hb hX hbl hbA hW.2 g252 d_W_law_1713 ?_
        refine lv_aload_n hx hb d_W_law_1714 rfl (lv_at hl 2 rfl) ?_
        obtain ⟨r253, qr253, hf⟩ := rd_bind hf
        refine rd_callSW (As := [.ref (ad 0), .int (xs (v28_5 + 1).toNatClampNeg), .ref (ad 139)]) (rest := []) rd_gd C9 hTh hW (c_W_zone hls (xs (v28_5 + 1).toNatClampNeg) qr253) kc_W_zone ki_W_zone l_W_172 rfl ⟨Nat.le_of_ble_eq_true rfl, Nat.le_of_ble_eq_true rfl⟩ ⟨by show cells + 1 ≤ 655733; omega, by show slots + 6 ≤ 7128906; omega⟩ hl.1 rfl (Nat.le_of_ble_eq_true rfl) d_W_law_1715 (fun E _ _ _ _ hex => hex.elim) (fun rr MM H locs hp hW => ?_)
        obtain ⟨rfl, rfl⟩ := hp
        refine lv_istore (lv' := [(6, .int r253.1), (5, .int v28_5), (4, .ref (ad 140)), (3, .ref (ad 139)), (2, .ref (ad 117)), (1, .ref (ad 0)), (0, .ref b)]) hx hb d_W_law_1718 hl (by decide) rfl (fun ls hl => ?_)
        refine lv_aload_n hx hb d_W_law_1720 rfl (lv_at hl 4 rfl) ?_
        refine lv_aload_n hx hb d_W_law_1721 rfl (lv_at hl 6 rfl) ?_
        refine lv_iload hx hb d_W_law_1722 (lv_at hl 1 rfl) ?_
        refine lv_iconst (v := 1) hx hb d_W_law_1724 (by decide) ?_
        refine lv_iadd hx hb d_W_law_1725 ?_
        obtain ⟨g254, hf⟩ := rd_g hf
        refine va_sld hx hb hX hbl hbA hW.2 g254 d_W_law_1726 ?_
        obtain ⟨r255, qr255, hf⟩ := rd_bind hf
        refine rd_callVS (k := 0) (As := [.int (xs (v28_5 + 1).toNatClampNeg)]) (rest := []) lw_EN rd_gd C9 hTh hW (c_N_zone hls (xs (v28_5 + 1).toNatClampNeg) qr255) kc_N_zone ki_N_zone ks_N_zone l_W_174 rfl lt_N ce_N rfl ⟨Nat.le_of_ble_eq_true rfl, Nat.le_of_ble_eq_true rfl⟩ ⟨by show cells + 1 + 0 ≤ 655733; omega, by show slots + 6 + 0 ≤ 7128906; omega⟩ hl.1 rfl (Nat.le_of_ble_eq_true rfl) d_W_law_1727 (fun E _ _ _ _ hex => hex.elim) (fun rr MM H locs hp hW => ?_)
        obtain ⟨rfl, rfl⟩ := hp
        have hW : rd_W D rd_cl (lw_L Ka) ad (fun q => s.heap.size ≤ q) s.heap (rd_pm 22 117 r253.2 r255.2) H locs := hW
        refine lv_istore (lv' := [(7, .int r255.1), (6, .int r253.1), (5, .int v28_5), (4, .ref (ad 140)), (3, .ref (ad 139)), (2, .ref (ad 117)), (1, .ref (ad 0)), (0, .ref b)]) hx hb d_W_law_1730 hl (by decide) rfl (fun ls hl => ?_)
        refine lv_aload_n hx hb d_W_law_1732 rfl (lv_at hl 5 rfl) ?_
        obtain ⟨r256, qr256, hf⟩ := rd_bind hf
        refine rd_callVS (k := 0) (As := []) (rest := []) lw_EN rd_gd C9 hTh hW (c_N_thrown hls qr256) kc_N_thrown ki_N_thrown ks_N_thrown l_W_102 rfl lt_N ce_N rfl ⟨Nat.le_of_ble_eq_true rfl, Nat.le_of_ble_eq_true rfl⟩ ⟨by show cells + 1 + 0 + 0 ≤ 655733; omega, by show slots + 6 + 0 + 0 ≤ 7128906; omega⟩ hl.1 rfl (Nat.le_of_ble_eq_true rfl) d_W_law_1733 (fun E _ _ _ _ hex => hex.elim) (fun rr MM H locs hp hW => ?_)
        obtain ⟨rfl, rfl⟩ := hp
        rw [rd_pm_self] at hW
        refine lv_iload hx hb d_W_law_1736 (lv_at hl 1 rfl) ?_
        refine lv_icmp_eq (tgt := 1743) hx hb d_W_law_1738 (by decide) (fun c257 => ?_) (fun c257 => ?_)
        · have hf := rd_t hf c257
          refine lv_iload hx hb d_W_law_1743 (lv_at hl 1 rfl) ?_
          refine lv_if_ne (tgt := 1760) hx hb d_W_law_1745 (by decide) (fun c258 => ?_) (fun c258 => ?_)
          · have hf := rd_f hf c258
            refine lv_goto (tgt := 1788) hx hb d_W_law_1760 (by decide) ?_
            refine lv_iinc (v := v28_5 + 6) (lv' := [(5, .int (v28_5 + 6)), (7, .int r255.1), (6, .int r253.1), (4, .ref (ad 140)), (3, .ref (ad 139)), (2, .ref (ad 117)), (1, .ref (ad 0)), (0, .ref b)]) hx hb d_W_law_1788 hl (k := 2) rfl rfl (by decide) rfl (fun ls hl => ?_)
            refine lv_goto (tgt := 28) hx hb d_W_law_1791 (by decide) ?_
            exact ih_28 _ _ _ _ _ _ _ hf (by show cells + 1 + 0 + 0 + 64 * fu ≤ 655733; omega) (by show slots + 6 + 0 + 0 + 512 * fu ≤ 7128906; omega) hW (lv_sub hl [0, 3, 4, 5, 6, 7] rfl)
          · have hf := rd_t hf c258
            refine lv_aload_n hx hb d_W_law_1748 rfl (lv_at hl 4 rfl) ?_
            refine lv_iconst (v := 0) hx hb d_W_law_1749 (by decide) ?_
            refine al_out C9 hW (i := 0) (by decide) (show rd_in 0 1 by decide) d_W_law_1750 ?_
            refine lv_iload hx hb d_W_law_1751 (lv_at hl 0 rfl) ?_
            refine lv_i2l hx hb d_W_law_1753 rfl ?_
            refine W.lcmp hx hb d_W_law_1754 ?_
            refine lv_if_eq (tgt := 1760) hx hb d_W_law_1755 (by decide) (fun c259 => ?_) (fun c259 => ?_)
            · have hf := rd_t hf c259
              refine lv_goto (tgt := 1788) hx hb d_W_law_1760 (by decide) ?_
              refine lv_iinc (v := v28_5 + 6) (lv' := [(5, .int (v28_5 + 6)), (7, .int r255.1), (6, .int r253.1), (4, .ref (ad 140)), (3, .ref (ad 139)), (2, .ref (ad 117)), (1, .ref (ad 0)), (0, .ref b)]) hx hb d_W_law_1788 hl (k := 2) rfl rfl (by decide) rfl (fun ls hl => ?_)
              refine lv_goto (tgt := 28) hx hb d_W_law_1791 (by decide) ?_
              exact ih_28 _ _ _ _ _ _ _ hf (by show cells + 1 + 0 + 0 + 64 * fu ≤ 655733; omega) (by show slots + 6 + 0 + 0 + 512 * fu ≤ 7128906; omega) hW (lv_sub hl [0, 3, 4, 5, 6, 7] rfl)
            · have hf := rd_f hf c259
              refine lv_iconst (v := 0) hx hb d_W_law_1758 (by decide) ?_
              exact absurd (Option.some.inj hf) (by decide)
        · have hf := rd_f hf c257
          refine lv_iconst (v := 0) hx hb d_W_law_1741 (by decide) ?_
          exact absurd (Option.some.inj hf) (by decide)
      have hf := rd_f hf c251
      by_cases c260 : ((xs (v28_5).toNatClampNeg) &&& 31) = 21
      · have hf := rd_t hf c260
        refine lv_tableIn (off := 1718) (tgt := 1763) hx hb d_W_law_45 (by rw [c260]; decide) (by rw [c260]; decide) (by rw [c260]; rfl) (by decide) ?_
        refine lv_aload_n hx hb d_W_law_1763 rfl (lv_at hl 4 rfl) ?_
        refine lv_aload_n hx hb d_W_law_1764 rfl (lv_at hl 5 rfl) ?_
        refine lv_iload hx hb d_W_law_1765 (lv_at hl 0 rfl) ?_
        refine lv_iconst (v := 1) hx hb d_W_law_1767 (by decide) ?_
        refine lv_iadd hx hb d_W_law_1768 ?_
        obtain ⟨g261, hf⟩ := rd_g hf
        refine va_sld hx hb hX hbl hbA hW.2 g261 d_W_law_1769 ?_
        obtain ⟨r262, qr262, hf⟩ := rd_bind hf
        refine rd_callVS (k := 0) (As := [.int (xs (v28_5 + 1).toNatClampNeg)]) (rest := []) lw_EK rd_gd C9 hTh hW (c_K_count hls (xs (v28_5 + 1).toNatClampNeg) qr262) kc_K_count ki_K_count ks_K_count l_W_175 rfl lt_K ce_K rfl ⟨Nat.le_of_ble_eq_true rfl, Nat.le_of_ble_eq_true rfl⟩ ⟨by show cells + 0 ≤ 655733; omega, by show slots + 0 ≤ 7128906; omega⟩ hl.1 rfl (Nat.le_of_ble_eq_true rfl) d_W_law_1770 (fun E _ _ _ _ hex => hex.elim) (fun rr MM H locs hp hW => ?_)
        obtain ⟨rfl, rfl⟩ := hp
        rw [rd_pm_self] at hW
        refine lv_aload_n hx hb d_W_law_1773 rfl (lv_at hl 3 rfl) ?_
        refine lv_aload_n hx hb d_W_law_1774 rfl (lv_at hl 5 rfl) ?_
        refine lv_iload hx hb d_W_law_1775 (lv_at hl 0 rfl) ?_
        refine lv_iconst (v := 1) hx hb d_W_law_1777 (by decide) ?_
        refine lv_iadd hx hb d_W_law_1778 ?_
        obtain ⟨g263, hf⟩ := rd_g hf
        refine va_sld hx hb hX hbl hbA hW.2 g263 d_W_law_1779 ?_
        obtain ⟨r264, qr264, hf⟩ := rd_bind hf
        refine rd_callVS (k := 0) (As := [.int (xs (v28_5 + 1).toNatClampNeg)]) (rest := [.int r262]) lw_EN rd_gd C9 hTh hW (c_N_count hls (xs (v28_5 + 1).toNatClampNeg) qr264) kc_N_count ki_N_count ks_N_count l_W_178 rfl lt_N ce_N rfl ⟨Nat.le_of_ble_eq_true rfl, Nat.le_of_ble_eq_true rfl⟩ ⟨by show cells + 0 + 0 ≤ 655733; omega, by show slots + 0 + 0 ≤ 7128906; omega⟩ hl.1 rfl (Nat.le_of_ble_eq_true rfl) d_W_law_1780 (fun E _ _ _ _ hex => hex.elim) (fun rr MM H locs hp hW => ?_)
        obtain ⟨rfl, rfl⟩ := hp
        have hW : rd_W D rd_cl (lw_L Ka) ad (fun q => s.heap.size ≤ q) s.heap (rd_pm 22 117 v28_M r264.2) H locs := hW
        refine lv_icmp_eq (tgt := 1788) hx hb d_W_law_1783 (by decide) (fun c265 => ?_) (fun c265 => ?_)
        · have hf := rd_t hf c265
          refine lv_iinc (v := v28_5 + 6) (lv' := [(5, .int (v28_5 + 6)), (4, .ref (ad 140)), (3, .ref (ad 139)), (2, .ref (ad 117)), (1, .ref (ad 0)), (0, .ref b)]) hx hb d_W_law_1788 hl (k := 0) rfl rfl (by decide) rfl (fun ls hl => ?_)
          refine lv_goto (tgt := 28) hx hb d_W_law_1791 (by decide) ?_
          exact ih_28 _ _ _ _ _ _ _ hf (by show cells + 0 + 0 + 64 * fu ≤ 655733; omega) (by show slots + 0 + 0 + 512 * fu ≤ 7128906; omega) hW (lv_sub hl [0, 1, 2, 3, 4, 5] rfl)
        · have hf := rd_f hf c265
          refine lv_iconst (v := 0) hx hb d_W_law_1786 (by decide) ?_
          exact absurd (Option.some.inj hf) (by decide)
      have hf := rd_f hf c260
      refine lv_tableOut (tgt := 1788) hx hb d_W_law_45 (by
        have nc3 : ¬ ((xs (v28_5).toNatClampNeg) &&& 31).toInt = 0 := fun h => c3 (Int32.toInt_inj.mp h)
        have nc14 : ¬ ((xs (v28_5).toNatClampNeg) &&& 31).toInt = 1 := fun h => c14 (Int32.toInt_inj.mp h)
        have nc27 : ¬ ((xs (v28_5).toNatClampNeg) &&& 31).toInt = 2 := fun h => c27 (Int32.toInt_inj.mp h)
        have nc36 : ¬ ((xs (v28_5).toNatClampNeg) &&& 31).toInt = 3 := fun h => c36 (Int32.toInt_inj.mp h)
        have nc49 : ¬ ((xs (v28_5).toNatClampNeg) &&& 31).toInt = 4 := fun h => c49 (Int32.toInt_inj.mp h)
        have nc62 : ¬ ((xs (v28_5).toNatClampNeg) &&& 31).toInt = 5 := fun h => c62 (Int32.toInt_inj.mp h)
        have nc79 : ¬ ((xs (v28_5).toNatClampNeg) &&& 31).toInt = 6 := fun h => c79 (Int32.toInt_inj.mp h)
        have nc100 : ¬ ((xs (v28_5).toNatClampNeg) &&& 31).toInt = 7 := fun h => c100 (Int32.toInt_inj.mp h)
        have nc113 : ¬ ((xs (v28_5).toNatClampNeg) &&& 31).toInt = 8 := fun h => c113 (Int32.toInt_inj.mp h)
        have nc126 : ¬ ((xs (v28_5).toNatClampNeg) &&& 31).toInt = 9 := fun h => c126 (Int32.toInt_inj.mp h)
        have nc137 : ¬ ((xs (v28_5).toNatClampNeg) &&& 31).toInt = 10 := fun h => c137 (Int32.toInt_inj.mp h)
        have nc148 : ¬ ((xs (v28_5).toNatClampNeg) &&& 31).toInt = 11 := fun h => c148 (Int32.toInt_inj.mp h)
        have nc161 : ¬ ((xs (v28_5).toNatClampNeg) &&& 31).toInt = 12 := fun h => c161 (Int32.toInt_inj.mp h)
        have nc178 : ¬ ((xs (v28_5).toNatClampNeg) &&& 31).toInt = 13 := fun h => c178 (Int32.toInt_inj.mp h)
        have nc187 : ¬ ((xs (v28_5).toNatClampNeg) &&& 31).toInt = 14 := fun h => c187 (Int32.toInt_inj.mp h)
        have nc196 : ¬ ((xs (v28_5).toNatClampNeg) &&& 31).toInt = 15 := fun h => c196 (Int32.toInt_inj.mp h)
        have nc205 : ¬ ((xs (v28_5).toNatClampNeg) &&& 31).toInt = 16 := fun h => c205 (Int32.toInt_inj.mp h)
        have nc216 : ¬ ((xs (v28_5).toNatClampNeg) &&& 31).toInt = 17 := fun h => c216 (Int32.toInt_inj.mp h)
        have nc229 : ¬ ((xs (v28_5).toNatClampNeg) &&& 31).toInt = 18 := fun h => c229 (Int32.toInt_inj.mp h)
        have nc240 : ¬ ((xs (v28_5).toNatClampNeg) &&& 31).toInt = 19 := fun h => c240 (Int32.toInt_inj.mp h)
        have nc251 : ¬ ((xs (v28_5).toNatClampNeg) &&& 31).toInt = 20 := fun h => c251 (Int32.toInt_inj.mp h)
        have nc260 : ¬ ((xs (v28_5).toNatClampNeg) &&& 31).toInt = 21 := fun h => c260 (Int32.toInt_inj.mp h)
        omega) (by decide) ?_
      refine lv_iinc (v := v28_5 + 6) (lv' := [(5, .int (v28_5 + 6)), (4, .ref (ad 140)), (3, .ref (ad 139)), (2, .ref (ad 117)), (1, .ref (ad 0)), (0, .ref b)]) hx hb d_W_law_1788 hl (k := 0) rfl rfl (by decide) rfl (fun ls hl => ?_)
      refine lv_goto (tgt := 28) hx hb d_W_law_1791 (by decide) ?_
      exact ih_28 _ _ _ _ _ _ _ hf (by show cells + 64 * fu ≤ 655733; omega) (by show slots + 512 * fu ≤ 7128906; omega) hW (lv_sub hl [0, 1, 2, 3, 4, 5] rfl)
