def mc_X0_init (pc : Nat) : Option mE :=
 if pc < 6 then
  if pc < 4 then
   if pc < 1 then
    if pc = 0 then some (.aload_n 0, 1, 0, []) else none
   else
    if pc = 1 then some (.invokespecial 3, 4, 1000, []) else none
  else
   if pc < 5 then
    if pc = 4 then some (.aload_n 0, 5, 0, []) else none
   else
    if pc = 5 then some (.aload_n 1, 6, 1, []) else none
 else
  if pc < 10 then
   if pc < 9 then
    if pc = 6 then some (.putfield 9, 9, 0, [0, 1, 2]) else none
   else
    if pc = 9 then some (.aload_n 0, 10, 0, []) else none
  else
   if pc < 11 then
    if pc = 10 then some (.iload_n 2, 11, 2, []) else none
   else
    if pc < 14 then
     if pc = 11 then some (.putfield 15, 14, 0, [1, 0, 2]) else none
    else
     if pc = 14 then some (.return_, 15, 0, []) else none

def mc_X0_isName (pc : Nat) : Option mE :=
 if pc < 70 then
  if pc < 28 then
   if pc < 11 then
    if pc < 4 then
     if pc < 2 then
      if pc < 1 then
       if pc = 0 then some (.iload_n 2, 1, 2, []) else none
      else
       if pc = 1 then some (.iload_n 1, 2, 1, []) else none
     else
      if pc < 3 then
       if pc = 2 then some (.isub, 3, 0, []) else none
      else
       if pc = 3 then some (.istore_n 3, 4, 3, []) else none
    else
     if pc < 8 then
      if pc < 5 then
       if pc = 4 then some (.iload_n 1, 5, 1, []) else none
      else
       if pc = 5 then some (.ifCond .lt 20, 8, 25, []) else none
     else
      if pc < 9 then
       if pc = 8 then some (.iload_n 2, 9, 2, []) else none
      else
       if pc < 10 then
        if pc = 9 then some (.aload_n 0, 10, 0, []) else none
       else
        if pc = 10 then some (.arraylength, 11, 0, []) else none
   else
    if pc < 20 then
     if pc < 15 then
      if pc < 14 then
       if pc = 11 then some (.if_icmp .gt 14, 14, 25, []) else none
      else
       if pc = 14 then some (.iload_n 3, 15, 3, []) else none
     else
      if pc < 16 then
       if pc = 15 then some (.iconst 1, 16, 0, []) else none
      else
       if pc < 19 then
        if pc = 16 then some (.if_icmp .lt 9, 19, 25, []) else none
       else
        if pc = 19 then some (.iload_n 3, 20, 3, []) else none
    else
     if pc < 25 then
      if pc < 22 then
       if pc = 20 then some (.bipush 14, 22, 0, []) else none
      else
       if pc = 22 then some (.if_icmp .le 5, 25, 27, []) else none
     else
      if pc < 26 then
       if pc = 25 then some (.iconst 0, 26, 0, []) else none
      else
       if pc < 27 then
        if pc = 26 then some (.ireturn, 27, 2, []) else none
       else
        if pc = 27 then some (.iconst 1, 28, 0, []) else none
  else
   if pc < 47 then
    if pc < 39 then
     if pc < 31 then
      if pc < 30 then
       if pc = 28 then some (.istore 4, 30, 4, []) else none
      else
       if pc = 30 then some (.iload_n 1, 31, 1, []) else none
     else
      if pc < 35 then
       if pc = 31 then some (.istore 5, 100033, 5, []) else none
      else
       if pc < 36 then
        if pc = 35 then some (.iload_n 2, 36, 2, []) else none
       else
        if pc = 36 then some (.if_icmp .ge 97, 39, 133, []) else none
    else
     if pc < 42 then
      if pc < 40 then
       if pc = 39 then some (.aload_n 0, 40, 0, []) else none
      else
       if pc = 40 then some (.iload 5, 42, 5, []) else none
     else
      if pc < 43 then
       if pc = 42 then some (.caload, 43, 0, []) else none
      else
       if pc < 45 then
        if pc = 43 then some (.istore 6, 45, 6, []) else none
       else
        if pc = 45 then some (.iload 6, 47, 6, []) else none
   else
    if pc < 59 then
     if pc < 52 then
      if pc < 49 then
       if pc = 47 then some (.bipush 97, 49, 0, []) else none
      else
       if pc = 49 then some (.if_icmp .lt 10, 52, 59, []) else none
     else
      if pc < 54 then
       if pc = 52 then some (.iload 6, 54, 6, []) else none
      else
       if pc < 56 then
        if pc = 54 then some (.bipush 122, 56, 0, []) else none
       else
        if pc = 56 then some (.if_icmp .le 17, 59, 73, []) else none
    else
     if pc < 63 then
      if pc < 61 then
       if pc = 59 then some (.iload 6, 61, 6, []) else none
      else
       if pc = 61 then some (.bipush 48, 63, 0, []) else none
     else
      if pc < 66 then
       if pc = 63 then some (.if_icmp .lt 14, 66, 77, []) else none
      else
       if pc < 68 then
        if pc = 66 then some (.iload 6, 68, 6, []) else none
       else
        if pc = 68 then some (.bipush 57, 70, 0, []) else none
 else
  if pc < 110 then
   if pc < 89 then
    if pc < 78 then
     if pc < 74 then
      if pc < 73 then
       if pc = 70 then some (.if_icmp .gt 7, 73, 77, []) else none
      else
       if pc = 73 then some (.iconst 1, 74, 0, []) else none
     else
      if pc < 77 then
       if pc = 74 then some (.goto 4, 77, 78, []) else none
      else
       if pc = 77 then some (.iconst 0, 78, 0, []) else none
    else
     if pc < 82 then
      if pc < 80 then
       if pc = 78 then some (.istore 7, 80, 7, []) else none
      else
       if pc = 80 then some (.iload 7, 82, 7, []) else none
     else
      if pc < 85 then
       if pc = 82 then some (.ifCond .ne 26, 85, 108, []) else none
      else
       if pc < 87 then
        if pc = 85 then some (.iload 6, 87, 6, []) else none
       else
        if pc = 87 then some (.bipush 46, 89, 0, []) else none
   else
    if pc < 101 then
     if pc < 94 then
      if pc < 92 then
       if pc = 89 then some (.if_icmp .eq 19, 92, 108, []) else none
      else
       if pc = 92 then some (.iload 6, 94, 6, []) else none
     else
      if pc < 96 then
       if pc = 94 then some (.bipush 95, 96, 0, []) else none
      else
       if pc < 99 then
        if pc = 96 then some (.if_icmp .eq 12, 99, 108, []) else none
       else
        if pc = 99 then some (.iload 6, 101, 6, []) else none
    else
     if pc < 106 then
      if pc < 103 then
       if pc = 101 then some (.bipush 45, 103, 0, []) else none
      else
       if pc = 103 then some (.if_icmp .eq 5, 106, 108, []) else none
     else
      if pc < 107 then
       if pc = 106 then some (.iconst 0, 107, 0, []) else none
      else
       if pc < 108 then
        if pc = 107 then some (.ireturn, 108, 2, []) else none
       else
        if pc = 108 then some (.iload 4, 110, 4, []) else none
  else
   if pc < 133 then
    if pc < 121 then
     if pc < 115 then
      if pc < 113 then
       if pc = 110 then some (.ifCond .eq 14, 113, 124, []) else none
      else
       if pc = 113 then some (.iload 6, 115, 6, []) else none
     else
      if pc < 117 then
       if pc = 115 then some (.bipush 46, 117, 0, []) else none
      else
       if pc < 120 then
        if pc = 117 then some (.if_icmp .ne 7, 120, 124, []) else none
       else
        if pc = 120 then some (.iconst 1, 121, 0, []) else none
    else
     if pc < 125 then
      if pc < 124 then
       if pc = 121 then some (.goto 4, 124, 125, []) else none
      else
       if pc = 124 then some (.iconst 0, 125, 0, []) else none
     else
      if pc < 127 then
       if pc = 125 then some (.istore 4, 127, 4, []) else none
      else
       if pc < 130 then
        if pc = 127 then some (.iinc 5 1, 130, 5, []) else none
       else
        if pc = 130 then some (.goto (-97), 133, 100033, []) else none
   else
    if pc < 143 then
     if pc < 138 then
      if pc < 135 then
       if pc = 133 then some (.iload 4, 135, 4, []) else none
      else
       if pc = 135 then some (.ifCond .eq 8, 138, 143, []) else none
     else
      if pc < 139 then
       if pc = 138 then some (.iload_n 3, 139, 3, []) else none
      else
       if pc < 140 then
        if pc = 139 then some (.iconst 2, 140, 0, []) else none
       else
        if pc = 140 then some (.if_icmp .le 7, 143, 147, []) else none
    else
     if pc < 147 then
      if pc < 144 then
       if pc = 143 then some (.iconst 1, 144, 0, []) else none
      else
       if pc = 144 then some (.goto 4, 147, 148, []) else none
     else
      if pc < 148 then
       if pc = 147 then some (.iconst 0, 148, 0, []) else none
      else
       if pc < 100033 then
        if pc = 148 then some (.ireturn, 149, 2, []) else none
       else
        if pc = 100033 then some (.iload 5, 35, 5, []) else none

def mc_X0_orderTo (pc : Nat) : Option mE :=
 if pc < 42 then
  if pc < 21 then
   if pc < 10 then
    if pc < 5 then
     if pc < 1 then
      if pc = 0 then some (.iload_n 2, 1, 2, []) else none
     else
      if pc < 4 then
       if pc = 1 then some (.ifCond .lt 9, 4, 10, []) else none
      else
       if pc = 4 then some (.iload_n 3, 5, 3, []) else none
    else
     if pc < 6 then
      if pc = 5 then some (.aload_n 1, 6, 1, []) else none
     else
      if pc < 7 then
       if pc = 6 then some (.arraylength, 7, 0, []) else none
      else
       if pc = 7 then some (.if_icmp .le 5, 10, 12, []) else none
   else
    if pc < 13 then
     if pc < 11 then
      if pc = 10 then some (.iconst (-1), 11, 0, []) else none
     else
      if pc < 12 then
       if pc = 11 then some (.ireturn, 12, 0, []) else none
      else
       if pc = 12 then some (.iconst 0, 13, 0, []) else none
    else
     if pc < 17 then
      if pc = 13 then some (.istore 4, 100015, 4, []) else none
     else
      if pc < 18 then
       if pc = 17 then some (.aload_n 0, 18, 0, []) else none
      else
       if pc = 18 then some (.getfield 9, 21, 0, [0, 1, 2]) else none
  else
   if pc < 30 then
    if pc < 26 then
     if pc < 22 then
      if pc = 21 then some (.arraylength, 22, 0, []) else none
     else
      if pc < 25 then
       if pc = 22 then some (.if_icmp .ge 48, 25, 70, []) else none
      else
       if pc = 25 then some (.iload_n 2, 26, 2, []) else none
    else
     if pc < 28 then
      if pc = 26 then some (.iload 4, 28, 4, []) else none
     else
      if pc < 29 then
       if pc = 28 then some (.iadd, 29, 0, []) else none
      else
       if pc = 29 then some (.iload_n 3, 30, 3, []) else none
   else
    if pc < 37 then
     if pc < 33 then
      if pc = 30 then some (.if_icmp .ge 40, 33, 70, []) else none
     else
      if pc < 34 then
       if pc = 33 then some (.aload_n 0, 34, 0, []) else none
      else
       if pc = 34 then some (.getfield 9, 37, 0, [0, 1, 2]) else none
    else
     if pc < 40 then
      if pc < 39 then
       if pc = 37 then some (.iload 4, 39, 4, []) else none
      else
       if pc = 39 then some (.caload, 40, 0, []) else none
     else
      if pc < 41 then
       if pc = 40 then some (.aload_n 1, 41, 1, []) else none
      else
       if pc = 41 then some (.iload_n 2, 42, 2, []) else none
 else
  if pc < 62 then
   if pc < 53 then
    if pc < 46 then
     if pc < 44 then
      if pc = 42 then some (.iload 4, 44, 4, []) else none
     else
      if pc < 45 then
       if pc = 44 then some (.iadd, 45, 0, []) else none
      else
       if pc = 45 then some (.caload, 46, 0, []) else none
    else
     if pc < 49 then
      if pc = 46 then some (.if_icmp .eq 18, 49, 64, []) else none
     else
      if pc < 50 then
       if pc = 49 then some (.aload_n 0, 50, 0, []) else none
      else
       if pc = 50 then some (.getfield 9, 53, 0, [0, 1, 2]) else none
   else
    if pc < 57 then
     if pc < 55 then
      if pc = 53 then some (.iload 4, 55, 4, []) else none
     else
      if pc < 56 then
       if pc = 55 then some (.caload, 56, 0, []) else none
      else
       if pc = 56 then some (.aload_n 1, 57, 1, []) else none
    else
     if pc < 60 then
      if pc < 58 then
       if pc = 57 then some (.iload_n 2, 58, 2, []) else none
      else
       if pc = 58 then some (.iload 4, 60, 4, []) else none
     else
      if pc < 61 then
       if pc = 60 then some (.iadd, 61, 0, []) else none
      else
       if pc = 61 then some (.caload, 62, 0, []) else none
  else
   if pc < 74 then
    if pc < 67 then
     if pc < 63 then
      if pc = 62 then some (.isub, 63, 0, []) else none
     else
      if pc < 64 then
       if pc = 63 then some (.ireturn, 64, 0, []) else none
      else
       if pc = 64 then some (.iinc 4 1, 67, 4, []) else none
    else
     if pc < 70 then
      if pc = 67 then some (.goto (-52), 70, 100015, []) else none
     else
      if pc < 71 then
       if pc = 70 then some (.aload_n 0, 71, 0, []) else none
      else
       if pc = 71 then some (.getfield 9, 74, 0, [0, 1, 2]) else none
   else
    if pc < 77 then
     if pc < 75 then
      if pc = 74 then some (.arraylength, 75, 0, []) else none
     else
      if pc < 76 then
       if pc = 75 then some (.iload_n 3, 76, 3, []) else none
      else
       if pc = 76 then some (.iload_n 2, 77, 2, []) else none
    else
     if pc < 79 then
      if pc < 78 then
       if pc = 77 then some (.isub, 78, 0, []) else none
      else
       if pc = 78 then some (.isub, 79, 0, []) else none
     else
      if pc < 100015 then
       if pc = 79 then some (.ireturn, 80, 0, []) else none
      else
       if pc = 100015 then some (.iload 4, 17, 4, []) else none

def mc_X1_init (pc : Nat) : Option mE :=
 if pc < 21 then
  if pc < 9 then
   if pc < 4 then
    if pc < 1 then
     if pc = 0 then some (.aload_n 0, 1, 0, []) else none
    else
     if pc = 1 then some (.invokespecial 3, 4, 1000, []) else none
   else
    if pc < 5 then
     if pc = 4 then some (.aload_n 0, 5, 0, []) else none
    else
     if pc < 7 then
      if pc = 5 then some (.bipush 50, 7, 0, []) else none
     else
      if pc = 7 then some (.newarray .int, 9, 20, []) else none
  else
   if pc < 15 then
    if pc < 12 then
     if pc = 9 then some (.putfield 9, 12, 1, [1, 1, 8]) else none
    else
     if pc < 13 then
      if pc = 12 then some (.aload_n 0, 13, 0, []) else none
     else
      if pc = 13 then some (.bipush 50, 15, 0, []) else none
   else
    if pc < 17 then
     if pc = 15 then some (.newarray .int, 17, 20, []) else none
    else
     if pc < 20 then
      if pc = 17 then some (.putfield 15, 20, 1, [2, 1, 8]) else none
     else
      if pc = 20 then some (.aload_n 0, 21, 0, []) else none
 else
  if pc < 31 then
   if pc < 25 then
    if pc < 23 then
     if pc = 21 then some (.bipush 50, 23, 0, []) else none
    else
     if pc = 23 then some (.newarray .int, 25, 20, []) else none
   else
    if pc < 28 then
     if pc = 25 then some (.putfield 18, 28, 1, [3, 1, 8]) else none
    else
     if pc < 29 then
      if pc = 28 then some (.aload_n 0, 29, 0, []) else none
     else
      if pc = 29 then some (.bipush 50, 31, 0, []) else none
  else
   if pc < 37 then
    if pc < 33 then
     if pc = 31 then some (.newarray .char, 33, 21, []) else none
    else
     if pc < 36 then
      if pc = 33 then some (.putfield 21, 36, 1, [4, 1, 8]) else none
     else
      if pc = 36 then some (.aload_n 0, 37, 0, []) else none
   else
    if pc < 38 then
     if pc = 37 then some (.aload_n 1, 38, 1, []) else none
    else
     if pc < 41 then
      if pc = 38 then some (.putfield 25, 41, 1, [0, 1, 8]) else none
     else
      if pc = 41 then some (.return_, 42, 0, []) else none

def mc_X1_read (pc : Nat) : Option mE :=
 if pc < 101 then
  if pc < 47 then
   if pc < 23 then
    if pc < 10 then
     if pc < 5 then
      if pc < 1 then
       if pc = 0 then some (.aload_n 0, 1, 0, []) else none
      else
       if pc < 2 then
        if pc = 1 then some (.iconst 0, 2, 0, []) else none
       else
        if pc = 2 then some (.putfield 29, 5, 1, [5, 0, 8]) else none
     else
      if pc < 6 then
       if pc = 5 then some (.aload_n 0, 6, 0, []) else none
      else
       if pc < 7 then
        if pc = 6 then some (.iconst 0, 7, 0, []) else none
       else
        if pc = 7 then some (.putfield 33, 10, 1, [6, 2, 8]) else none
    else
     if pc < 15 then
      if pc < 11 then
       if pc = 10 then some (.aload_n 0, 11, 0, []) else none
      else
       if pc < 12 then
        if pc = 11 then some (.iconst 0, 12, 0, []) else none
       else
        if pc = 12 then some (.putfield 37, 15, 1, [7, 2, 8]) else none
     else
      if pc < 17 then
       if pc < 16 then
        if pc = 15 then some (.iload_n 1, 16, 1, []) else none
       else
        if pc = 16 then some (.aload_n 0, 17, 0, []) else none
      else
       if pc < 20 then
        if pc = 17 then some (.getfield 25, 20, 1, [0, 1, 8]) else none
       else
        if pc = 20 then some (.getfield 40, 23, 4, [4, 0, 5]) else none
   else
    if pc < 35 then
     if pc < 29 then
      if pc < 26 then
       if pc = 23 then some (.if_icmp .lt 11, 26, 34, []) else none
      else
       if pc < 27 then
        if pc = 26 then some (.aload_n 0, 27, 0, []) else none
       else
        if pc = 27 then some (.bipush 13, 29, 0, []) else none
     else
      if pc < 33 then
       if pc < 32 then
        if pc = 29 then some (.invokevirtual 45, 32, 5, [2, 0, 0, 2, 2, 0, 0]) else none
       else
        if pc = 32 then some (.iconst (-1), 33, 0, []) else none
      else
       if pc < 34 then
        if pc = 33 then some (.ireturn, 34, 0, []) else none
       else
        if pc = 34 then some (.iconst 0, 35, 0, []) else none
    else
     if pc < 38 then
      if pc < 36 then
       if pc = 35 then some (.istore_n 2, 36, 2, []) else none
      else
       if pc < 37 then
        if pc = 36 then some (.iconst 1, 37, 0, []) else none
       else
        if pc = 37 then some (.istore_n 3, 38, 3, []) else none
     else
      if pc < 43 then
       if pc < 39 then
        if pc = 38 then some (.iload_n 1, 39, 1, []) else none
       else
        if pc = 39 then some (.istore 4, 100041, 4, []) else none
      else
       if pc < 44 then
        if pc = 43 then some (.aload_n 0, 44, 0, []) else none
       else
        if pc = 44 then some (.getfield 25, 47, 1, [0, 1, 8]) else none
  else
   if pc < 76 then
    if pc < 63 then
     if pc < 54 then
      if pc < 50 then
       if pc = 47 then some (.getfield 40, 50, 4, [4, 0, 5]) else none
      else
       if pc < 53 then
        if pc = 50 then some (.if_icmp .ge 138, 53, 188, []) else none
       else
        if pc = 53 then some (.aload_n 0, 54, 0, []) else none
     else
      if pc < 59 then
       if pc < 56 then
        if pc = 54 then some (.iload 4, 56, 4, []) else none
       else
        if pc = 56 then some (.invokevirtual 49, 59, 6, [2, 0, 0, 2, 2, 0, 0]) else none
      else
       if pc < 61 then
        if pc = 59 then some (.istore 5, 61, 5, []) else none
       else
        if pc = 61 then some (.iload 5, 63, 5, []) else none
    else
     if pc < 69 then
      if pc < 64 then
       if pc = 63 then some (.iconst 1, 64, 0, []) else none
      else
       if pc < 67 then
        if pc = 64 then some (.if_icmp .eq 9, 67, 73, []) else none
       else
        if pc = 67 then some (.iload 5, 69, 5, []) else none
     else
      if pc < 73 then
       if pc < 70 then
        if pc = 69 then some (.iconst 2, 70, 0, []) else none
       else
        if pc = 70 then some (.if_icmp .ne 22, 73, 92, []) else none
      else
       if pc < 74 then
        if pc = 73 then some (.iload_n 2, 74, 2, []) else none
       else
        if pc = 74 then some (.iload 5, 76, 5, []) else none
   else
    if pc < 87 then
     if pc < 81 then
      if pc < 77 then
       if pc = 76 then some (.iconst 2, 77, 0, []) else none
      else
       if pc < 80 then
        if pc = 77 then some (.if_icmp .ne 7, 80, 84, []) else none
       else
        if pc = 80 then some (.iconst 1, 81, 0, []) else none
     else
      if pc < 85 then
       if pc < 84 then
        if pc = 81 then some (.goto 4, 84, 85, []) else none
       else
        if pc = 84 then some (.iconst 0, 85, 0, []) else none
      else
       if pc < 86 then
        if pc = 85 then some (.iadd, 86, 0, []) else none
       else
        if pc = 86 then some (.istore_n 2, 87, 2, []) else none
    else
     if pc < 92 then
      if pc < 88 then
       if pc = 87 then some (.iconst 1, 88, 0, []) else none
      else
       if pc < 89 then
        if pc = 88 then some (.istore_n 3, 89, 3, []) else none
       else
        if pc = 89 then some (.goto 87, 92, 176, []) else none
     else
      if pc < 96 then
       if pc < 94 then
        if pc = 92 then some (.iload 5, 94, 5, []) else none
       else
        if pc = 94 then some (.bipush 6, 96, 0, []) else none
      else
       if pc < 99 then
        if pc = 96 then some (.if_icmp .lt 32, 99, 128, []) else none
       else
        if pc = 99 then some (.iload 5, 101, 5, []) else none
 else
  if pc < 157 then
   if pc < 129 then
    if pc < 117 then
     if pc < 109 then
      if pc < 103 then
       if pc = 101 then some (.bipush 12, 103, 0, []) else none
      else
       if pc < 106 then
        if pc = 103 then some (.if_icmp .ge 20, 106, 123, []) else none
       else
        if pc = 106 then some (.iinc 4 1, 109, 4, []) else none
     else
      if pc < 112 then
       if pc < 110 then
        if pc = 109 then some (.aload_n 0, 110, 0, []) else none
       else
        if pc = 110 then some (.iload 5, 112, 5, []) else none
      else
       if pc < 114 then
        if pc = 112 then some (.iload 4, 114, 4, []) else none
       else
        if pc = 114 then some (.invokevirtual 53, 117, 8, [3, 0, 0, 3, 2, 0, 0]) else none
    else
     if pc < 123 then
      if pc < 120 then
       if pc = 117 then some (.ifCond .ne 6, 120, 123, []) else none
      else
       if pc < 122 then
        if pc = 120 then some (.iload 4, 122, 4, []) else none
       else
        if pc = 122 then some (.ireturn, 123, 0, []) else none
     else
      if pc < 125 then
       if pc < 124 then
        if pc = 123 then some (.iconst 0, 124, 0, []) else none
       else
        if pc = 124 then some (.istore_n 3, 125, 3, []) else none
      else
       if pc < 128 then
        if pc = 125 then some (.goto 51, 128, 176, []) else none
       else
        if pc = 128 then some (.iload_n 3, 129, 3, []) else none
   else
    if pc < 144 then
     if pc < 137 then
      if pc < 132 then
       if pc = 129 then some (.ifCond .ne 18, 132, 147, []) else none
      else
       if pc < 134 then
        if pc = 132 then some (.iload 5, 134, 5, []) else none
       else
        if pc = 134 then some (.ifCond .eq 13, 137, 147, []) else none
     else
      if pc < 140 then
       if pc < 139 then
        if pc = 137 then some (.iload 5, 139, 5, []) else none
       else
        if pc = 139 then some (.iconst 3, 140, 0, []) else none
      else
       if pc < 143 then
        if pc = 140 then some (.if_icmp .ne 10, 143, 150, []) else none
       else
        if pc = 143 then some (.iload_n 2, 144, 2, []) else none
    else
     if pc < 150 then
      if pc < 147 then
       if pc = 144 then some (.ifCond .ne 6, 147, 150, []) else none
      else
       if pc < 149 then
        if pc = 147 then some (.iload 4, 149, 4, []) else none
       else
        if pc = 149 then some (.ireturn, 150, 0, []) else none
     else
      if pc < 153 then
       if pc < 151 then
        if pc = 150 then some (.iload_n 2, 151, 2, []) else none
       else
        if pc = 151 then some (.iload 5, 153, 5, []) else none
      else
       if pc < 154 then
        if pc = 153 then some (.iconst 3, 154, 0, []) else none
       else
        if pc = 154 then some (.if_icmp .ne 7, 157, 161, []) else none
  else
   if pc < 179 then
    if pc < 167 then
     if pc < 162 then
      if pc < 158 then
       if pc = 157 then some (.iconst 1, 158, 0, []) else none
      else
       if pc < 161 then
        if pc = 158 then some (.goto 4, 161, 162, []) else none
       else
        if pc = 161 then some (.iconst 0, 162, 0, []) else none
     else
      if pc < 164 then
       if pc < 163 then
        if pc = 162 then some (.isub, 163, 0, []) else none
       else
        if pc = 163 then some (.istore_n 2, 164, 2, []) else none
      else
       if pc < 166 then
        if pc = 164 then some (.iload 5, 166, 5, []) else none
       else
        if pc = 166 then some (.iconst 3, 167, 0, []) else none
    else
     if pc < 174 then
      if pc < 170 then
       if pc = 167 then some (.if_icmp .eq 7, 170, 174, []) else none
      else
       if pc < 171 then
        if pc = 170 then some (.iconst 1, 171, 0, []) else none
       else
        if pc = 171 then some (.goto 4, 174, 175, []) else none
     else
      if pc < 176 then
       if pc < 175 then
        if pc = 174 then some (.iconst 0, 175, 0, []) else none
       else
        if pc = 175 then some (.istore_n 3, 176, 3, []) else none
      else
       if pc < 177 then
        if pc = 176 then some (.aload_n 0, 177, 0, []) else none
       else
        if pc = 177 then some (.iload 5, 179, 5, []) else none
   else
    if pc < 196 then
     if pc < 188 then
      if pc < 182 then
       if pc = 179 then some (.invokevirtual 45, 182, 5, [2, 0, 0, 2, 2, 0, 0]) else none
      else
       if pc < 185 then
        if pc = 182 then some (.iinc 4 1, 185, 4, []) else none
       else
        if pc = 185 then some (.goto (-144), 188, 100041, []) else none
     else
      if pc < 192 then
       if pc < 189 then
        if pc = 188 then some (.iload_n 3, 189, 3, []) else none
       else
        if pc = 189 then some (.ifCond .ne 7, 192, 196, []) else none
      else
       if pc < 193 then
        if pc = 192 then some (.iload_n 2, 193, 2, []) else none
       else
        if pc = 193 then some (.ifCond .le 13, 196, 206, []) else none
    else
     if pc < 203 then
      if pc < 197 then
       if pc = 196 then some (.aload_n 0, 197, 0, []) else none
      else
       if pc < 200 then
        if pc = 197 then some (.getfield 25, 200, 1, [0, 1, 8]) else none
       else
        if pc = 200 then some (.getfield 40, 203, 4, [4, 0, 5]) else none
     else
      if pc < 207 then
       if pc < 206 then
        if pc = 203 then some (.goto 4, 206, 207, []) else none
       else
        if pc = 206 then some (.iconst (-1), 207, 0, []) else none
      else
       if pc < 100041 then
        if pc = 207 then some (.ireturn, 208, 0, []) else none
       else
        if pc = 100041 then some (.iload 4, 43, 4, []) else none

def mc_X1_addPart (pc : Nat) : Option mE :=
 if pc < 34 then
  if pc < 18 then
   if pc < 9 then
    if pc < 4 then
     if pc < 1 then
      if pc = 0 then some (.aload_n 0, 1, 0, []) else none
     else
      if pc = 1 then some (.getfield 29, 4, 1, [5, 0, 8]) else none
    else
     if pc < 6 then
      if pc = 4 then some (.bipush 50, 6, 0, []) else none
     else
      if pc = 6 then some (.if_icmp .ge 23, 9, 29, []) else none
   else
    if pc < 13 then
     if pc < 10 then
      if pc = 9 then some (.aload_n 0, 10, 0, []) else none
     else
      if pc = 10 then some (.getfield 9, 13, 1, [1, 1, 8]) else none
    else
     if pc < 14 then
      if pc = 13 then some (.aload_n 0, 14, 0, []) else none
     else
      if pc < 17 then
       if pc = 14 then some (.getfield 29, 17, 1, [5, 0, 8]) else none
      else
       if pc = 17 then some (.iload_n 1, 18, 1, []) else none
  else
   if pc < 25 then
    if pc < 20 then
     if pc < 19 then
      if pc = 18 then some (.iastore, 19, 0, []) else none
     else
      if pc = 19 then some (.aload_n 0, 20, 0, []) else none
    else
     if pc < 21 then
      if pc = 20 then some (.dup, 21, 0, []) else none
     else
      if pc < 24 then
       if pc = 21 then some (.getfield 29, 24, 1, [5, 0, 8]) else none
      else
       if pc = 24 then some (.iconst 1, 25, 0, []) else none
   else
    if pc < 29 then
     if pc < 26 then
      if pc = 25 then some (.iadd, 26, 0, []) else none
     else
      if pc = 26 then some (.putfield 29, 29, 1, [5, 0, 8]) else none
    else
     if pc < 30 then
      if pc = 29 then some (.aload_n 0, 30, 0, []) else none
     else
      if pc < 31 then
       if pc = 30 then some (.aload_n 0, 31, 0, []) else none
      else
       if pc = 31 then some (.getfield 33, 34, 1, [6, 0, 8]) else none
 else
  if pc < 53 then
   if pc < 44 then
    if pc < 38 then
     if pc < 37 then
      if pc = 34 then some (.ifCond .ne 9, 37, 43, []) else none
     else
      if pc = 37 then some (.iload_n 1, 38, 1, []) else none
    else
     if pc < 40 then
      if pc = 38 then some (.bipush 13, 40, 0, []) else none
     else
      if pc < 43 then
       if pc = 40 then some (.if_icmp .ne 7, 43, 47, []) else none
      else
       if pc = 43 then some (.iconst 1, 44, 0, []) else none
   else
    if pc < 48 then
     if pc < 47 then
      if pc = 44 then some (.goto 4, 47, 48, []) else none
     else
      if pc = 47 then some (.iconst 0, 48, 0, []) else none
    else
     if pc < 51 then
      if pc = 48 then some (.putfield 33, 51, 1, [6, 2, 8]) else none
     else
      if pc < 52 then
       if pc = 51 then some (.aload_n 0, 52, 0, []) else none
      else
       if pc = 52 then some (.aload_n 0, 53, 0, []) else none
  else
   if pc < 65 then
    if pc < 59 then
     if pc < 56 then
      if pc = 53 then some (.getfield 37, 56, 1, [7, 0, 8]) else none
     else
      if pc = 56 then some (.ifCond .ne 9, 59, 65, []) else none
    else
     if pc < 60 then
      if pc = 59 then some (.iload_n 1, 60, 1, []) else none
     else
      if pc < 62 then
       if pc = 60 then some (.bipush 14, 62, 0, []) else none
      else
       if pc = 62 then some (.if_icmp .ne 7, 65, 69, []) else none
   else
    if pc < 69 then
     if pc < 66 then
      if pc = 65 then some (.iconst 1, 66, 0, []) else none
     else
      if pc = 66 then some (.goto 4, 69, 70, []) else none
    else
     if pc < 70 then
      if pc = 69 then some (.iconst 0, 70, 0, []) else none
     else
      if pc < 73 then
       if pc = 70 then some (.putfield 37, 73, 1, [7, 2, 8]) else none
      else
       if pc = 73 then some (.return_, 74, 0, []) else none

def mc_X1_kindOf (pc : Nat) : Option mE :=
 if pc < 34 then
  if pc < 16 then
   if pc < 6 then
    if pc < 4 then
     if pc < 1 then
      if pc = 0 then some (.aload_n 0, 1, 0, []) else none
     else
      if pc = 1 then some (.getfield 25, 4, 1, [0, 1, 8]) else none
    else
     if pc < 5 then
      if pc = 4 then some (.iload_n 1, 5, 1, []) else none
     else
      if pc = 5 then some (.iconst 0, 6, 0, []) else none
   else
    if pc < 11 then
     if pc < 9 then
      if pc = 6 then some (.invokevirtual 57, 9, 32, [3, 0, 0, 3, 5, 0, 0]) else none
     else
      if pc = 9 then some (.bipush 45, 11, 0, []) else none
    else
     if pc < 14 then
      if pc = 11 then some (.if_icmp .ne 9, 14, 20, []) else none
     else
      if pc < 15 then
       if pc = 14 then some (.aload_n 0, 15, 0, []) else none
      else
       if pc = 15 then some (.iload_n 1, 16, 1, []) else none
  else
   if pc < 24 then
    if pc < 20 then
     if pc < 19 then
      if pc = 16 then some (.invokevirtual 61, 19, 7, [2, 0, 0, 2, 2, 0, 0]) else none
     else
      if pc = 19 then some (.ireturn, 20, 0, []) else none
    else
     if pc < 21 then
      if pc = 20 then some (.aload_n 0, 21, 0, []) else none
     else
      if pc = 21 then some (.getfield 25, 24, 1, [0, 1, 8]) else none
   else
    if pc < 27 then
     if pc < 25 then
      if pc = 24 then some (.iload_n 1, 25, 1, []) else none
     else
      if pc = 25 then some (.ldc 64, 27, 1, [1]) else none
    else
     if pc < 30 then
      if pc = 27 then some (.invokevirtual 66, 30, 33, [3, 0, 0, 4, 5, 0, 0]) else none
     else
      if pc < 33 then
       if pc = 30 then some (.ifCond .eq 5, 33, 35, []) else none
      else
       if pc = 33 then some (.iconst 1, 34, 0, []) else none
 else
  if pc < 50 then
   if pc < 40 then
    if pc < 36 then
     if pc < 35 then
      if pc = 34 then some (.ireturn, 35, 0, []) else none
     else
      if pc = 35 then some (.aload_n 0, 36, 0, []) else none
    else
     if pc < 39 then
      if pc = 36 then some (.getfield 25, 39, 1, [0, 1, 8]) else none
     else
      if pc = 39 then some (.iload_n 1, 40, 1, []) else none
   else
    if pc < 45 then
     if pc < 42 then
      if pc = 40 then some (.ldc 70, 42, 1, [2]) else none
     else
      if pc = 42 then some (.invokevirtual 66, 45, 33, [3, 0, 0, 4, 5, 0, 0]) else none
    else
     if pc < 48 then
      if pc = 45 then some (.ifCond .eq 5, 48, 50, []) else none
     else
      if pc < 49 then
       if pc = 48 then some (.iconst 2, 49, 0, []) else none
      else
       if pc = 49 then some (.ireturn, 50, 0, []) else none
  else
   if pc < 60 then
    if pc < 54 then
     if pc < 51 then
      if pc = 50 then some (.aload_n 0, 51, 0, []) else none
     else
      if pc = 51 then some (.getfield 25, 54, 1, [0, 1, 8]) else none
    else
     if pc < 55 then
      if pc = 54 then some (.iload_n 1, 55, 1, []) else none
     else
      if pc < 57 then
       if pc = 55 then some (.ldc 72, 57, 1, [3]) else none
      else
       if pc = 57 then some (.invokevirtual 66, 60, 33, [3, 0, 0, 4, 5, 0, 0]) else none
   else
    if pc < 64 then
     if pc < 63 then
      if pc = 60 then some (.ifCond .eq 7, 63, 67, []) else none
     else
      if pc = 63 then some (.iconst 3, 64, 0, []) else none
    else
     if pc < 67 then
      if pc = 64 then some (.goto 4, 67, 68, []) else none
     else
      if pc < 68 then
       if pc = 67 then some (.iconst 0, 68, 0, []) else none
      else
       if pc = 68 then some (.ireturn, 69, 0, []) else none

def mc_X1_kindOfMinus (pc : Nat) : Option mE :=
 if pc < 88 then
  if pc < 43 then
   if pc < 20 then
    if pc < 10 then
     if pc < 4 then
      if pc < 1 then
       if pc = 0 then some (.aload_n 0, 1, 0, []) else none
      else
       if pc = 1 then some (.getfield 25, 4, 1, [0, 1, 8]) else none
     else
      if pc < 5 then
       if pc = 4 then some (.iload_n 1, 5, 1, []) else none
      else
       if pc < 7 then
        if pc = 5 then some (.ldc 74, 7, 1, [4]) else none
       else
        if pc = 7 then some (.invokevirtual 66, 10, 33, [3, 0, 0, 4, 5, 0, 0]) else none
    else
     if pc < 15 then
      if pc < 13 then
       if pc = 10 then some (.ifCond .eq 5, 13, 15, []) else none
      else
       if pc < 14 then
        if pc = 13 then some (.iconst 4, 14, 0, []) else none
       else
        if pc = 14 then some (.ireturn, 15, 0, []) else none
     else
      if pc < 16 then
       if pc = 15 then some (.aload_n 0, 16, 0, []) else none
      else
       if pc < 19 then
        if pc = 16 then some (.getfield 25, 19, 1, [0, 1, 8]) else none
       else
        if pc = 19 then some (.iload_n 1, 20, 1, []) else none
   else
    if pc < 30 then
     if pc < 25 then
      if pc < 22 then
       if pc = 20 then some (.ldc 76, 22, 1, [5]) else none
      else
       if pc = 22 then some (.invokevirtual 66, 25, 33, [3, 0, 0, 4, 5, 0, 0]) else none
     else
      if pc < 28 then
       if pc = 25 then some (.ifCond .eq 5, 28, 30, []) else none
      else
       if pc < 29 then
        if pc = 28 then some (.iconst 5, 29, 0, []) else none
       else
        if pc = 29 then some (.ireturn, 30, 0, []) else none
    else
     if pc < 35 then
      if pc < 31 then
       if pc = 30 then some (.aload_n 0, 31, 0, []) else none
      else
       if pc < 34 then
        if pc = 31 then some (.getfield 25, 34, 1, [0, 1, 8]) else none
       else
        if pc = 34 then some (.iload_n 1, 35, 1, []) else none
     else
      if pc < 37 then
       if pc = 35 then some (.ldc 78, 37, 1, [6]) else none
      else
       if pc < 40 then
        if pc = 37 then some (.invokevirtual 66, 40, 33, [3, 0, 0, 4, 5, 0, 0]) else none
       else
        if pc = 40 then some (.ifCond .eq 6, 43, 46, []) else none
  else
   if pc < 63 then
    if pc < 51 then
     if pc < 46 then
      if pc < 45 then
       if pc = 43 then some (.bipush 6, 45, 0, []) else none
      else
       if pc = 45 then some (.ireturn, 46, 0, []) else none
     else
      if pc < 47 then
       if pc = 46 then some (.aload_n 0, 47, 0, []) else none
      else
       if pc < 50 then
        if pc = 47 then some (.getfield 25, 50, 1, [0, 1, 8]) else none
       else
        if pc = 50 then some (.iload_n 1, 51, 1, []) else none
    else
     if pc < 59 then
      if pc < 53 then
       if pc = 51 then some (.ldc 80, 53, 1, [7]) else none
      else
       if pc < 56 then
        if pc = 53 then some (.invokevirtual 66, 56, 33, [3, 0, 0, 4, 5, 0, 0]) else none
       else
        if pc = 56 then some (.ifCond .eq 6, 59, 62, []) else none
     else
      if pc < 61 then
       if pc = 59 then some (.bipush 7, 61, 0, []) else none
      else
       if pc < 62 then
        if pc = 61 then some (.ireturn, 62, 0, []) else none
       else
        if pc = 62 then some (.aload_n 0, 63, 0, []) else none
   else
    if pc < 77 then
     if pc < 69 then
      if pc < 66 then
       if pc = 63 then some (.getfield 25, 66, 1, [0, 1, 8]) else none
      else
       if pc < 67 then
        if pc = 66 then some (.iload_n 1, 67, 1, []) else none
       else
        if pc = 67 then some (.ldc 82, 69, 1, [8]) else none
     else
      if pc < 72 then
       if pc = 69 then some (.invokevirtual 66, 72, 33, [3, 0, 0, 4, 5, 0, 0]) else none
      else
       if pc < 75 then
        if pc = 72 then some (.ifCond .eq 6, 75, 78, []) else none
       else
        if pc = 75 then some (.bipush 8, 77, 0, []) else none
    else
     if pc < 82 then
      if pc < 78 then
       if pc = 77 then some (.ireturn, 78, 0, []) else none
      else
       if pc < 79 then
        if pc = 78 then some (.aload_n 0, 79, 0, []) else none
       else
        if pc = 79 then some (.getfield 25, 82, 1, [0, 1, 8]) else none
     else
      if pc < 83 then
       if pc = 82 then some (.iload_n 1, 83, 1, []) else none
      else
       if pc < 85 then
        if pc = 83 then some (.ldc 84, 85, 1, [9]) else none
       else
        if pc = 85 then some (.invokevirtual 66, 88, 33, [3, 0, 0, 4, 5, 0, 0]) else none
 else
  if pc < 131 then
   if pc < 110 then
    if pc < 98 then
     if pc < 93 then
      if pc < 91 then
       if pc = 88 then some (.ifCond .eq 6, 91, 94, []) else none
      else
       if pc = 91 then some (.bipush 9, 93, 0, []) else none
     else
      if pc < 94 then
       if pc = 93 then some (.ireturn, 94, 0, []) else none
      else
       if pc < 95 then
        if pc = 94 then some (.aload_n 0, 95, 0, []) else none
       else
        if pc = 95 then some (.getfield 25, 98, 1, [0, 1, 8]) else none
    else
     if pc < 104 then
      if pc < 99 then
       if pc = 98 then some (.iload_n 1, 99, 1, []) else none
      else
       if pc < 101 then
        if pc = 99 then some (.ldc 86, 101, 1, [10]) else none
       else
        if pc = 101 then some (.invokevirtual 66, 104, 33, [3, 0, 0, 4, 5, 0, 0]) else none
     else
      if pc < 107 then
       if pc = 104 then some (.ifCond .eq 6, 107, 110, []) else none
      else
       if pc < 109 then
        if pc = 107 then some (.bipush 10, 109, 0, []) else none
       else
        if pc = 109 then some (.ireturn, 110, 0, []) else none
   else
    if pc < 120 then
     if pc < 114 then
      if pc < 111 then
       if pc = 110 then some (.aload_n 0, 111, 0, []) else none
      else
       if pc = 111 then some (.getfield 25, 114, 1, [0, 1, 8]) else none
     else
      if pc < 115 then
       if pc = 114 then some (.iload_n 1, 115, 1, []) else none
      else
       if pc < 117 then
        if pc = 115 then some (.ldc 88, 117, 1, [11]) else none
       else
        if pc = 117 then some (.invokevirtual 66, 120, 33, [3, 0, 0, 4, 5, 0, 0]) else none
    else
     if pc < 126 then
      if pc < 123 then
       if pc = 120 then some (.ifCond .eq 6, 123, 126, []) else none
      else
       if pc < 125 then
        if pc = 123 then some (.bipush 11, 125, 0, []) else none
       else
        if pc = 125 then some (.ireturn, 126, 0, []) else none
     else
      if pc < 127 then
       if pc = 126 then some (.aload_n 0, 127, 0, []) else none
      else
       if pc < 130 then
        if pc = 127 then some (.getfield 25, 130, 1, [0, 1, 8]) else none
       else
        if pc = 130 then some (.iload_n 1, 131, 1, []) else none
  else
   if pc < 155 then
    if pc < 142 then
     if pc < 136 then
      if pc < 133 then
       if pc = 131 then some (.ldc 90, 133, 1, [12]) else none
      else
       if pc = 133 then some (.invokevirtual 66, 136, 33, [3, 0, 0, 4, 5, 0, 0]) else none
     else
      if pc < 139 then
       if pc = 136 then some (.ifCond .eq 6, 139, 142, []) else none
      else
       if pc < 141 then
        if pc = 139 then some (.bipush 12, 141, 0, []) else none
       else
        if pc = 141 then some (.ireturn, 142, 0, []) else none
    else
     if pc < 147 then
      if pc < 143 then
       if pc = 142 then some (.aload_n 0, 143, 0, []) else none
      else
       if pc < 146 then
        if pc = 143 then some (.getfield 25, 146, 1, [0, 1, 8]) else none
       else
        if pc = 146 then some (.iload_n 1, 147, 1, []) else none
     else
      if pc < 149 then
       if pc = 147 then some (.ldc 92, 149, 1, [13]) else none
      else
       if pc < 152 then
        if pc = 149 then some (.invokevirtual 66, 152, 33, [3, 0, 0, 4, 5, 0, 0]) else none
       else
        if pc = 152 then some (.ifCond .eq 6, 155, 158, []) else none
   else
    if pc < 165 then
     if pc < 159 then
      if pc < 157 then
       if pc = 155 then some (.bipush 13, 157, 0, []) else none
      else
       if pc < 158 then
        if pc = 157 then some (.ireturn, 158, 0, []) else none
       else
        if pc = 158 then some (.aload_n 0, 159, 0, []) else none
     else
      if pc < 162 then
       if pc = 159 then some (.getfield 25, 162, 1, [0, 1, 8]) else none
      else
       if pc < 163 then
        if pc = 162 then some (.iload_n 1, 163, 1, []) else none
       else
        if pc = 163 then some (.ldc 94, 165, 1, [14]) else none
    else
     if pc < 173 then
      if pc < 168 then
       if pc = 165 then some (.invokevirtual 66, 168, 33, [3, 0, 0, 4, 5, 0, 0]) else none
      else
       if pc < 171 then
        if pc = 168 then some (.ifCond .eq 8, 171, 176, []) else none
       else
        if pc = 171 then some (.bipush 14, 173, 0, []) else none
     else
      if pc < 176 then
       if pc = 173 then some (.goto 4, 176, 177, []) else none
      else
       if pc < 177 then
        if pc = 176 then some (.iconst 0, 177, 0, []) else none
       else
        if pc = 177 then some (.ireturn, 178, 0, []) else none

def mc_X1_readOperand (pc : Nat) : Option mE :=
 if pc < 35 then
  if pc < 20 then
   if pc < 8 then
    if pc < 2 then
     if pc < 1 then
      if pc = 0 then some (.iload_n 2, 1, 2, []) else none
     else
      if pc = 1 then some (.aload_n 0, 2, 0, []) else none
    else
     if pc < 5 then
      if pc = 2 then some (.getfield 25, 5, 1, [0, 1, 8]) else none
     else
      if pc = 5 then some (.getfield 40, 8, 4, [4, 0, 5]) else none
   else
    if pc < 12 then
     if pc < 11 then
      if pc = 8 then some (.if_icmp .ge 12, 11, 20, []) else none
     else
      if pc = 11 then some (.aload_n 0, 12, 0, []) else none
    else
     if pc < 15 then
      if pc = 12 then some (.getfield 29, 15, 1, [5, 0, 8]) else none
     else
      if pc < 17 then
       if pc = 15 then some (.bipush 50, 17, 0, []) else none
      else
       if pc = 17 then some (.if_icmp .lt 5, 20, 22, []) else none
  else
   if pc < 27 then
    if pc < 22 then
     if pc < 21 then
      if pc = 20 then some (.iconst 0, 21, 0, []) else none
     else
      if pc = 21 then some (.ireturn, 22, 2, []) else none
    else
     if pc < 23 then
      if pc = 22 then some (.aload_n 0, 23, 0, []) else none
     else
      if pc < 26 then
       if pc = 23 then some (.getfield 15, 26, 1, [2, 1, 8]) else none
      else
       if pc = 26 then some (.aload_n 0, 27, 0, []) else none
   else
    if pc < 31 then
     if pc < 30 then
      if pc = 27 then some (.getfield 29, 30, 1, [5, 0, 8]) else none
     else
      if pc = 30 then some (.iload_n 2, 31, 2, []) else none
    else
     if pc < 32 then
      if pc = 31 then some (.iastore, 32, 0, []) else none
     else
      if pc < 33 then
       if pc = 32 then some (.iload_n 1, 33, 1, []) else none
      else
       if pc = 33 then some (.bipush 7, 35, 0, []) else none
 else
  if pc < 51 then
   if pc < 43 then
    if pc < 39 then
     if pc < 38 then
      if pc = 35 then some (.if_icmp .ne 9, 38, 44, []) else none
     else
      if pc = 38 then some (.aload_n 0, 39, 0, []) else none
    else
     if pc < 40 then
      if pc = 39 then some (.iload_n 2, 40, 2, []) else none
     else
      if pc = 40 then some (.invokevirtual 96, 43, 9, [2, 0, 0, 3, 2, 0, 0]) else none
   else
    if pc < 45 then
     if pc < 44 then
      if pc = 43 then some (.ireturn, 44, 2, []) else none
     else
      if pc = 44 then some (.iload_n 1, 45, 1, []) else none
    else
     if pc < 47 then
      if pc = 45 then some (.bipush 6, 47, 0, []) else none
     else
      if pc < 50 then
       if pc = 47 then some (.if_icmp .eq 17, 50, 64, []) else none
      else
       if pc = 50 then some (.iload_n 1, 51, 1, []) else none
  else
   if pc < 61 then
    if pc < 56 then
     if pc < 53 then
      if pc = 51 then some (.bipush 11, 53, 0, []) else none
     else
      if pc = 53 then some (.if_icmp .eq 11, 56, 64, []) else none
    else
     if pc < 57 then
      if pc = 56 then some (.aload_n 0, 57, 0, []) else none
     else
      if pc < 58 then
       if pc = 57 then some (.iload_n 2, 58, 2, []) else none
      else
       if pc = 58 then some (.invokevirtual 100, 61, 10, [2, 0, 0, 9, 2, 0, 0]) else none
   else
    if pc < 65 then
     if pc < 64 then
      if pc = 61 then some (.ifCond .eq 7, 64, 68, []) else none
     else
      if pc = 64 then some (.iconst 1, 65, 0, []) else none
    else
     if pc < 68 then
      if pc = 65 then some (.goto 4, 68, 69, []) else none
     else
      if pc < 69 then
       if pc = 68 then some (.iconst 0, 69, 0, []) else none
      else
       if pc = 69 then some (.ireturn, 70, 2, []) else none

def mc_X1_readKind (pc : Nat) : Option mE :=
 if pc < 38 then
  if pc < 18 then
   if pc < 9 then
    if pc < 4 then
     if pc < 1 then
      if pc = 0 then some (.aload_n 0, 1, 0, []) else none
     else
      if pc = 1 then some (.getfield 25, 4, 1, [0, 1, 8]) else none
    else
     if pc < 5 then
      if pc = 4 then some (.iload_n 1, 5, 1, []) else none
     else
      if pc < 6 then
       if pc = 5 then some (.iconst 0, 6, 0, []) else none
      else
       if pc = 6 then some (.invokevirtual 57, 9, 32, [3, 0, 0, 3, 5, 0, 0]) else none
   else
    if pc < 11 then
     if pc < 10 then
      if pc = 9 then some (.istore_n 2, 10, 2, []) else none
     else
      if pc = 10 then some (.aload_n 0, 11, 0, []) else none
    else
     if pc < 14 then
      if pc = 11 then some (.getfield 18, 14, 1, [3, 1, 8]) else none
     else
      if pc < 15 then
       if pc = 14 then some (.aload_n 0, 15, 0, []) else none
      else
       if pc = 15 then some (.getfield 29, 18, 1, [5, 0, 8]) else none
  else
   if pc < 28 then
    if pc < 21 then
     if pc < 19 then
      if pc = 18 then some (.iload_n 2, 19, 2, []) else none
     else
      if pc = 19 then some (.bipush 100, 21, 0, []) else none
    else
     if pc < 24 then
      if pc = 21 then some (.if_icmp .ne 7, 24, 28, []) else none
     else
      if pc < 25 then
       if pc = 24 then some (.iconst 0, 25, 0, []) else none
      else
       if pc = 25 then some (.goto 14, 28, 39, []) else none
   else
    if pc < 31 then
     if pc < 29 then
      if pc = 28 then some (.iload_n 2, 29, 2, []) else none
     else
      if pc = 29 then some (.bipush 102, 31, 0, []) else none
    else
     if pc < 34 then
      if pc = 31 then some (.if_icmp .ne 7, 34, 38, []) else none
     else
      if pc < 35 then
       if pc = 34 then some (.iconst 1, 35, 0, []) else none
      else
       if pc = 35 then some (.goto 4, 38, 39, []) else none
 else
  if pc < 55 then
   if pc < 45 then
    if pc < 40 then
     if pc < 39 then
      if pc = 38 then some (.iconst 2, 39, 0, []) else none
     else
      if pc = 39 then some (.iastore, 40, 0, []) else none
    else
     if pc < 41 then
      if pc = 40 then some (.aload_n 0, 41, 0, []) else none
     else
      if pc < 44 then
       if pc = 41 then some (.getfield 25, 44, 1, [0, 1, 8]) else none
      else
       if pc = 44 then some (.iload_n 1, 45, 1, []) else none
   else
    if pc < 49 then
     if pc < 48 then
      if pc = 45 then some (.invokevirtual 103, 48, 31, [2, 0, 0, 2, 5, 0, 0]) else none
     else
      if pc = 48 then some (.iconst 1, 49, 0, []) else none
    else
     if pc < 52 then
      if pc = 49 then some (.if_icmp .ne 25, 52, 74, []) else none
     else
      if pc < 53 then
       if pc = 52 then some (.iload_n 2, 53, 2, []) else none
      else
       if pc = 53 then some (.bipush 100, 55, 0, []) else none
  else
   if pc < 65 then
    if pc < 59 then
     if pc < 58 then
      if pc = 55 then some (.if_icmp .eq 15, 58, 70, []) else none
     else
      if pc = 58 then some (.iload_n 2, 59, 2, []) else none
    else
     if pc < 61 then
      if pc = 59 then some (.bipush 102, 61, 0, []) else none
     else
      if pc < 64 then
       if pc = 61 then some (.if_icmp .eq 9, 64, 70, []) else none
      else
       if pc = 64 then some (.iload_n 2, 65, 2, []) else none
   else
    if pc < 71 then
     if pc < 67 then
      if pc = 65 then some (.bipush 108, 67, 0, []) else none
     else
      if pc < 70 then
       if pc = 67 then some (.if_icmp .ne 7, 70, 74, []) else none
      else
       if pc = 70 then some (.iconst 1, 71, 0, []) else none
    else
     if pc < 74 then
      if pc = 71 then some (.goto 4, 74, 75, []) else none
     else
      if pc < 75 then
       if pc = 74 then some (.iconst 0, 75, 0, []) else none
      else
       if pc = 75 then some (.ireturn, 76, 2, []) else none

def mc_X1_readNumber (pc : Nat) : Option mE :=
 if pc < 81 then
  if pc < 39 then
   if pc < 19 then
    if pc < 9 then
     if pc < 4 then
      if pc < 1 then
       if pc = 0 then some (.aload_n 0, 1, 0, []) else none
      else
       if pc = 1 then some (.getfield 25, 4, 1, [0, 1, 8]) else none
     else
      if pc < 5 then
       if pc = 4 then some (.iload_n 1, 5, 1, []) else none
      else
       if pc < 6 then
        if pc = 5 then some (.iconst 0, 6, 0, []) else none
       else
        if pc = 6 then some (.invokevirtual 57, 9, 32, [3, 0, 0, 3, 5, 0, 0]) else none
    else
     if pc < 13 then
      if pc < 10 then
       if pc = 9 then some (.istore_n 2, 10, 2, []) else none
      else
       if pc < 11 then
        if pc = 10 then some (.iload_n 2, 11, 2, []) else none
       else
        if pc = 11 then some (.bipush 43, 13, 0, []) else none
     else
      if pc < 16 then
       if pc = 13 then some (.if_icmp .eq 9, 16, 22, []) else none
      else
       if pc < 17 then
        if pc = 16 then some (.iload_n 2, 17, 2, []) else none
       else
        if pc = 17 then some (.bipush 45, 19, 0, []) else none
   else
    if pc < 28 then
     if pc < 23 then
      if pc < 22 then
       if pc = 19 then some (.if_icmp .ne 7, 22, 26, []) else none
      else
       if pc = 22 then some (.iconst 1, 23, 0, []) else none
     else
      if pc < 26 then
       if pc = 23 then some (.goto 4, 26, 27, []) else none
      else
       if pc < 27 then
        if pc = 26 then some (.iconst 0, 27, 0, []) else none
       else
        if pc = 27 then some (.istore_n 3, 28, 3, []) else none
    else
     if pc < 33 then
      if pc < 29 then
       if pc = 28 then some (.iload_n 3, 29, 3, []) else none
      else
       if pc < 32 then
        if pc = 29 then some (.ifCond .eq 7, 32, 36, []) else none
       else
        if pc = 32 then some (.iconst 1, 33, 0, []) else none
     else
      if pc < 36 then
       if pc = 33 then some (.goto 4, 36, 37, []) else none
      else
       if pc < 37 then
        if pc = 36 then some (.iconst 0, 37, 0, []) else none
       else
        if pc = 37 then some (.istore 4, 39, 4, []) else none
  else
   if pc < 60 then
    if pc < 49 then
     if pc < 43 then
      if pc < 40 then
       if pc = 39 then some (.aload_n 0, 40, 0, []) else none
      else
       if pc = 40 then some (.getfield 25, 43, 1, [0, 1, 8]) else none
     else
      if pc < 44 then
       if pc = 43 then some (.iload_n 1, 44, 1, []) else none
      else
       if pc < 47 then
        if pc = 44 then some (.invokevirtual 103, 47, 31, [2, 0, 0, 2, 5, 0, 0]) else none
       else
        if pc = 47 then some (.istore 5, 49, 5, []) else none
    else
     if pc < 54 then
      if pc < 51 then
       if pc = 49 then some (.iload 5, 51, 5, []) else none
      else
       if pc < 53 then
        if pc = 51 then some (.iload 4, 53, 4, []) else none
       else
        if pc = 53 then some (.isub, 54, 0, []) else none
     else
      if pc < 55 then
       if pc = 54 then some (.iconst 1, 55, 0, []) else none
      else
       if pc < 58 then
        if pc = 55 then some (.if_icmp .lt 13, 58, 68, []) else none
       else
        if pc = 58 then some (.iload 5, 60, 5, []) else none
   else
    if pc < 69 then
     if pc < 63 then
      if pc < 62 then
       if pc = 60 then some (.iload 4, 62, 4, []) else none
      else
       if pc = 62 then some (.isub, 63, 0, []) else none
     else
      if pc < 65 then
       if pc = 63 then some (.bipush 6, 65, 0, []) else none
      else
       if pc < 68 then
        if pc = 65 then some (.if_icmp .le 5, 68, 70, []) else none
       else
        if pc = 68 then some (.iconst 0, 69, 0, []) else none
    else
     if pc < 73 then
      if pc < 70 then
       if pc = 69 then some (.ireturn, 70, 2, []) else none
      else
       if pc < 71 then
        if pc = 70 then some (.iconst 0, 71, 0, []) else none
       else
        if pc = 71 then some (.istore 6, 73, 6, []) else none
     else
      if pc < 75 then
       if pc = 73 then some (.iload 4, 75, 4, []) else none
      else
       if pc < 79 then
        if pc = 75 then some (.istore 7, 100077, 7, []) else none
       else
        if pc = 79 then some (.iload 5, 81, 5, []) else none
 else
  if pc < 123 then
   if pc < 105 then
    if pc < 91 then
     if pc < 85 then
      if pc < 84 then
       if pc = 81 then some (.if_icmp .ge 50, 84, 131, []) else none
      else
       if pc = 84 then some (.aload_n 0, 85, 0, []) else none
     else
      if pc < 88 then
       if pc = 85 then some (.getfield 25, 88, 1, [0, 1, 8]) else none
      else
       if pc < 89 then
        if pc = 88 then some (.iload_n 1, 89, 1, []) else none
       else
        if pc = 89 then some (.iload 7, 91, 7, []) else none
    else
     if pc < 98 then
      if pc < 94 then
       if pc = 91 then some (.invokevirtual 57, 94, 32, [3, 0, 0, 3, 5, 0, 0]) else none
      else
       if pc < 96 then
        if pc = 94 then some (.istore 8, 96, 8, []) else none
       else
        if pc = 96 then some (.iload 8, 98, 8, []) else none
     else
      if pc < 100 then
       if pc = 98 then some (.bipush 48, 100, 0, []) else none
      else
       if pc < 103 then
        if pc = 100 then some (.if_icmp .lt 10, 103, 110, []) else none
       else
        if pc = 103 then some (.iload 8, 105, 8, []) else none
   else
    if pc < 114 then
     if pc < 110 then
      if pc < 107 then
       if pc = 105 then some (.bipush 57, 107, 0, []) else none
      else
       if pc = 107 then some (.if_icmp .le 5, 110, 112, []) else none
     else
      if pc < 111 then
       if pc = 110 then some (.iconst 0, 111, 0, []) else none
      else
       if pc < 112 then
        if pc = 111 then some (.ireturn, 112, 2, []) else none
       else
        if pc = 112 then some (.iload 6, 114, 6, []) else none
    else
     if pc < 119 then
      if pc < 116 then
       if pc = 114 then some (.bipush 10, 116, 0, []) else none
      else
       if pc < 117 then
        if pc = 116 then some (.imul, 117, 0, []) else none
       else
        if pc = 117 then some (.iload 8, 119, 8, []) else none
     else
      if pc < 121 then
       if pc = 119 then some (.bipush 48, 121, 0, []) else none
      else
       if pc < 122 then
        if pc = 121 then some (.isub, 122, 0, []) else none
       else
        if pc = 122 then some (.iadd, 123, 0, []) else none
  else
   if pc < 146 then
    if pc < 135 then
     if pc < 128 then
      if pc < 125 then
       if pc = 123 then some (.istore 6, 125, 6, []) else none
      else
       if pc = 125 then some (.iinc 7 1, 128, 7, []) else none
     else
      if pc < 131 then
       if pc = 128 then some (.goto (-51), 131, 100077, []) else none
      else
       if pc < 132 then
        if pc = 131 then some (.aload_n 0, 132, 0, []) else none
       else
        if pc = 132 then some (.getfield 18, 135, 1, [3, 1, 8]) else none
    else
     if pc < 141 then
      if pc < 136 then
       if pc = 135 then some (.aload_n 0, 136, 0, []) else none
      else
       if pc < 139 then
        if pc = 136 then some (.getfield 29, 139, 1, [5, 0, 8]) else none
       else
        if pc = 139 then some (.iload 6, 141, 6, []) else none
     else
      if pc < 142 then
       if pc = 141 then some (.iastore, 142, 0, []) else none
      else
       if pc < 143 then
        if pc = 142 then some (.aload_n 0, 143, 0, []) else none
       else
        if pc = 143 then some (.getfield 21, 146, 1, [4, 1, 8]) else none
   else
    if pc < 155 then
     if pc < 150 then
      if pc < 147 then
       if pc = 146 then some (.aload_n 0, 147, 0, []) else none
      else
       if pc = 147 then some (.getfield 29, 150, 1, [5, 0, 8]) else none
     else
      if pc < 151 then
       if pc = 150 then some (.iload_n 3, 151, 3, []) else none
      else
       if pc < 154 then
        if pc = 151 then some (.ifCond .eq 7, 154, 158, []) else none
       else
        if pc = 154 then some (.iload_n 2, 155, 2, []) else none
    else
     if pc < 161 then
      if pc < 158 then
       if pc = 155 then some (.goto 5, 158, 160, []) else none
      else
       if pc < 160 then
        if pc = 158 then some (.bipush 61, 160, 0, []) else none
       else
        if pc = 160 then some (.castore, 161, 0, []) else none
     else
      if pc < 162 then
       if pc = 161 then some (.iconst 1, 162, 0, []) else none
      else
       if pc < 100077 then
        if pc = 162 then some (.ireturn, 163, 2, []) else none
       else
        if pc = 100077 then some (.iload 7, 79, 7, []) else none

def mc_X2_init (pc : Nat) : Option mE :=
 if pc < 26 then
  if pc < 12 then
   if pc < 5 then
    if pc < 1 then
     if pc = 0 then some (.aload_n 0, 1, 0, []) else none
    else
     if pc < 4 then
      if pc = 1 then some (.invokespecial 3, 4, 1000, []) else none
     else
      if pc = 4 then some (.aload_n 0, 5, 0, []) else none
   else
    if pc < 8 then
     if pc = 5 then some (.new 9, 8, 8, [5]) else none
    else
     if pc < 9 then
      if pc = 8 then some (.dup, 9, 0, []) else none
     else
      if pc = 9 then some (.invokespecial 11, 12, 53, [1, 4, 204, 1, 9]) else none
  else
   if pc < 19 then
    if pc < 15 then
     if pc = 12 then some (.putfield 12, 15, 2, [4, 1, 14]) else none
    else
     if pc < 16 then
      if pc = 15 then some (.aload_n 0, 16, 0, []) else none
     else
      if pc = 16 then some (.sipush 820, 19, 0, []) else none
   else
    if pc < 24 then
     if pc < 21 then
      if pc = 19 then some (.newarray .char, 21, 21, []) else none
     else
      if pc = 21 then some (.putfield 18, 24, 2, [5, 1, 14]) else none
    else
     if pc < 25 then
      if pc = 24 then some (.aload_n 0, 25, 0, []) else none
     else
      if pc = 25 then some (.aload_n 1, 26, 1, []) else none
 else
  if pc < 40 then
   if pc < 31 then
    if pc < 29 then
     if pc = 26 then some (.putfield 22, 29, 2, [0, 1, 14]) else none
    else
     if pc < 30 then
      if pc = 29 then some (.aload_n 0, 30, 0, []) else none
     else
      if pc = 30 then some (.aload_n 3, 31, 3, []) else none
   else
    if pc < 35 then
     if pc < 34 then
      if pc = 31 then some (.putfield 26, 34, 2, [1, 1, 14]) else none
     else
      if pc = 34 then some (.aload_n 0, 35, 0, []) else none
    else
     if pc < 37 then
      if pc = 35 then some (.aload 4, 37, 4, []) else none
     else
      if pc = 37 then some (.putfield 30, 40, 2, [2, 1, 14]) else none
  else
   if pc < 45 then
    if pc < 41 then
     if pc = 40 then some (.aload_n 0, 41, 0, []) else none
    else
     if pc < 44 then
      if pc = 41 then some (.new 34, 44, 3, [2]) else none
     else
      if pc = 44 then some (.dup, 45, 0, []) else none
   else
    if pc < 49 then
     if pc < 46 then
      if pc = 45 then some (.aload_n 2, 46, 2, []) else none
     else
      if pc = 46 then some (.invokespecial 36, 49, 20, [2, 0, 0, 2, 4]) else none
    else
     if pc < 52 then
      if pc = 49 then some (.putfield 39, 52, 2, [3, 1, 14]) else none
     else
      if pc = 52 then some (.return_, 53, 0, []) else none

def mc_X2_begin (pc : Nat) : Option mE :=
 if pc < 12 then
  if pc < 6 then
   if pc < 2 then
    if pc < 1 then
     if pc = 0 then some (.aload_n 0, 1, 0, []) else none
    else
     if pc = 1 then some (.iload_n 1, 2, 1, []) else none
   else
    if pc < 5 then
     if pc = 2 then some (.putfield 43, 5, 2, [6, 0, 14]) else none
    else
     if pc = 5 then some (.aload_n 0, 6, 0, []) else none
  else
   if pc < 10 then
    if pc < 7 then
     if pc = 6 then some (.iconst 0, 7, 0, []) else none
    else
     if pc = 7 then some (.putfield 47, 10, 2, [7, 0, 14]) else none
   else
    if pc < 11 then
     if pc = 10 then some (.aload_n 0, 11, 0, []) else none
    else
     if pc = 11 then some (.iconst 0, 12, 0, []) else none
 else
  if pc < 20 then
   if pc < 16 then
    if pc < 15 then
     if pc = 12 then some (.putfield 50, 15, 2, [8, 0, 14]) else none
    else
     if pc = 15 then some (.aload_n 0, 16, 0, []) else none
   else
    if pc < 17 then
     if pc = 16 then some (.iconst 0, 17, 0, []) else none
    else
     if pc = 17 then some (.putfield 53, 20, 2, [9, 2, 14]) else none
  else
   if pc < 22 then
    if pc < 21 then
     if pc = 20 then some (.aload_n 0, 21, 0, []) else none
    else
     if pc = 21 then some (.iconst 0, 22, 0, []) else none
   else
    if pc < 25 then
     if pc = 22 then some (.putfield 57, 25, 2, [10, 2, 14]) else none
    else
     if pc = 25 then some (.return_, 26, 0, []) else none

def mc_X2_search (pc : Nat) : Option mE :=
 if pc < 65 then
  if pc < 32 then
   if pc < 13 then
    if pc < 6 then
     if pc < 3 then
      if pc < 2 then
       if pc = 0 then some (.iload 4, 2, 4, []) else none
      else
       if pc = 2 then some (.iload_n 3, 3, 3, []) else none
     else
      if pc < 4 then
       if pc = 3 then some (.isub, 4, 0, []) else none
      else
       if pc = 4 then some (.istore 5, 6, 5, []) else none
    else
     if pc < 10 then
      if pc < 7 then
       if pc = 6 then some (.iload_n 3, 7, 3, []) else none
      else
       if pc = 7 then some (.ifCond .lt 23, 10, 30, []) else none
     else
      if pc < 12 then
       if pc = 10 then some (.iload 4, 12, 4, []) else none
      else
       if pc = 12 then some (.aload_n 2, 13, 2, []) else none
   else
    if pc < 20 then
     if pc < 17 then
      if pc < 14 then
       if pc = 13 then some (.arraylength, 14, 0, []) else none
      else
       if pc = 14 then some (.if_icmp .gt 16, 17, 30, []) else none
     else
      if pc < 19 then
       if pc = 17 then some (.iload 5, 19, 5, []) else none
      else
       if pc = 19 then some (.iconst 1, 20, 0, []) else none
    else
     if pc < 25 then
      if pc < 23 then
       if pc = 20 then some (.if_icmp .lt 10, 23, 30, []) else none
      else
       if pc = 23 then some (.iload 5, 25, 5, []) else none
     else
      if pc < 27 then
       if pc = 25 then some (.bipush 100, 27, 0, []) else none
      else
       if pc < 30 then
        if pc = 27 then some (.if_icmp .le 6, 30, 33, []) else none
       else
        if pc = 30 then some (.bipush (-2), 32, 0, []) else none
  else
   if pc < 47 then
    if pc < 36 then
     if pc < 34 then
      if pc < 33 then
       if pc = 32 then some (.ireturn, 33, 0, []) else none
      else
       if pc = 33 then some (.aload_n 2, 34, 2, []) else none
     else
      if pc < 35 then
       if pc = 34 then some (.iload_n 3, 35, 3, []) else none
      else
       if pc = 35 then some (.aload_n 0, 36, 0, []) else none
    else
     if pc < 40 then
      if pc < 39 then
       if pc = 36 then some (.getfield 18, 39, 2, [5, 1, 14]) else none
      else
       if pc = 39 then some (.iconst 0, 40, 0, []) else none
     else
      if pc < 42 then
       if pc = 40 then some (.iload 5, 42, 5, []) else none
      else
       if pc < 45 then
        if pc = 42 then some (.invokestatic 60, 45, 1001, []) else none
       else
        if pc = 45 then some (.iload 5, 47, 5, []) else none
   else
    if pc < 58 then
     if pc < 54 then
      if pc < 51 then
       if pc = 47 then some (.istore 6, 100049, 6, []) else none
      else
       if pc = 51 then some (.ifCond .le 23, 54, 74, []) else none
     else
      if pc < 55 then
       if pc = 54 then some (.aload_n 0, 55, 0, []) else none
      else
       if pc = 55 then some (.getfield 18, 58, 2, [5, 1, 14]) else none
    else
     if pc < 61 then
      if pc < 60 then
       if pc = 58 then some (.iload 6, 60, 6, []) else none
      else
       if pc = 60 then some (.iconst 1, 61, 0, []) else none
     else
      if pc < 62 then
       if pc = 61 then some (.isub, 62, 0, []) else none
      else
       if pc < 63 then
        if pc = 62 then some (.caload, 63, 0, []) else none
       else
        if pc = 63 then some (.bipush 47, 65, 0, []) else none
 else
  if pc < 104 then
   if pc < 87 then
    if pc < 76 then
     if pc < 71 then
      if pc < 68 then
       if pc = 65 then some (.if_icmp .ne 9, 68, 74, []) else none
      else
       if pc = 68 then some (.iinc 6 (-1), 71, 6, []) else none
     else
      if pc < 74 then
       if pc = 71 then some (.goto (-22), 74, 100049, []) else none
      else
       if pc = 74 then some (.iload 6, 76, 6, []) else none
    else
     if pc < 83 then
      if pc < 80 then
       if pc = 76 then some (.istore 7, 100078, 7, []) else none
      else
       if pc = 80 then some (.ifCond .le 23, 83, 103, []) else none
     else
      if pc < 84 then
       if pc = 83 then some (.aload_n 0, 84, 0, []) else none
      else
       if pc = 84 then some (.getfield 18, 87, 2, [5, 1, 14]) else none
   else
    if pc < 92 then
     if pc < 90 then
      if pc < 89 then
       if pc = 87 then some (.iload 7, 89, 7, []) else none
      else
       if pc = 89 then some (.iconst 1, 90, 0, []) else none
     else
      if pc < 91 then
       if pc = 90 then some (.isub, 91, 0, []) else none
      else
       if pc = 91 then some (.caload, 92, 0, []) else none
    else
     if pc < 97 then
      if pc < 94 then
       if pc = 92 then some (.bipush 47, 94, 0, []) else none
      else
       if pc = 94 then some (.if_icmp .eq 9, 97, 103, []) else none
     else
      if pc < 100 then
       if pc = 97 then some (.iinc 7 (-1), 100, 7, []) else none
      else
       if pc < 103 then
        if pc = 100 then some (.goto (-22), 103, 100078, []) else none
       else
        if pc = 103 then some (.aload_n 0, 104, 0, []) else none
  else
   if pc < 120 then
    if pc < 110 then
     if pc < 107 then
      if pc < 105 then
       if pc = 104 then some (.iload_n 1, 105, 1, []) else none
      else
       if pc = 105 then some (.iload 7, 107, 7, []) else none
     else
      if pc < 108 then
       if pc = 107 then some (.iconst 1, 108, 0, []) else none
      else
       if pc = 108 then some (.iload 6, 110, 6, []) else none
    else
     if pc < 115 then
      if pc < 113 then
       if pc = 110 then some (.invokestatic 66, 113, 1002, []) else none
      else
       if pc = 113 then some (.iload 5, 115, 5, []) else none
     else
      if pc < 116 then
       if pc = 115 then some (.iconst 0, 116, 0, []) else none
      else
       if pc < 119 then
        if pc = 116 then some (.invokevirtual 72, 119, 14, [6, 0, 0, 8, 3, 0, 0]) else none
       else
        if pc = 119 then some (.aload_n 0, 120, 0, []) else none
   else
    if pc < 131 then
     if pc < 126 then
      if pc < 123 then
       if pc = 120 then some (.getfield 57, 123, 2, [10, 0, 14]) else none
      else
       if pc = 123 then some (.ifCond .eq 8, 126, 131, []) else none
     else
      if pc < 128 then
       if pc = 126 then some (.bipush (-8), 128, 0, []) else none
      else
       if pc = 128 then some (.goto 7, 131, 135, []) else none
    else
     if pc < 135 then
      if pc < 132 then
       if pc = 131 then some (.aload_n 0, 132, 0, []) else none
      else
       if pc = 132 then some (.getfield 47, 135, 2, [7, 0, 14]) else none
     else
      if pc < 100049 then
       if pc = 135 then some (.ireturn, 136, 0, []) else none
      else
       if pc < 100078 then
        if pc = 100049 then some (.iload 6, 51, 6, []) else none
       else
        if pc = 100078 then some (.iload 7, 80, 7, []) else none

def mc_X2_visit (pc : Nat) : Option mE :=
 if pc < 66 then
  if pc < 32 then
   if pc < 17 then
    if pc < 8 then
     if pc < 4 then
      if pc < 1 then
       if pc = 0 then some (.aload_n 0, 1, 0, []) else none
      else
       if pc = 1 then some (.getfield 22, 4, 2, [0, 1, 14]) else none
     else
      if pc < 5 then
       if pc = 4 then some (.iload_n 1, 5, 1, []) else none
      else
       if pc = 5 then some (.invokevirtual 76, 8, 48, [2, 0, 0, 2, 8, 0, 0]) else none
    else
     if pc < 12 then
      if pc < 10 then
       if pc = 8 then some (.astore 6, 10, 6, []) else none
      else
       if pc = 10 then some (.aload 6, 12, 6, []) else none
     else
      if pc < 15 then
       if pc = 12 then some (.ifnull 17, 15, 29, []) else none
      else
       if pc = 15 then some (.iload 5, 17, 5, []) else none
   else
    if pc < 26 then
     if pc < 22 then
      if pc < 19 then
       if pc = 17 then some (.bipush 48, 19, 0, []) else none
      else
       if pc = 19 then some (.if_icmp .ge 10, 22, 29, []) else none
     else
      if pc < 23 then
       if pc = 22 then some (.aload_n 0, 23, 0, []) else none
      else
       if pc = 23 then some (.getfield 57, 26, 2, [10, 0, 14]) else none
    else
     if pc < 30 then
      if pc < 29 then
       if pc = 26 then some (.ifCond .eq 4, 29, 30, []) else none
      else
       if pc = 29 then some (.return_, 30, 0, []) else none
     else
      if pc < 31 then
       if pc = 30 then some (.aload_n 0, 31, 0, []) else none
      else
       if pc = 31 then some (.iconst 0, 32, 0, []) else none
  else
   if pc < 49 then
    if pc < 42 then
     if pc < 36 then
      if pc < 35 then
       if pc = 32 then some (.putfield 53, 35, 2, [9, 2, 14]) else none
      else
       if pc = 35 then some (.aload_n 0, 36, 0, []) else none
     else
      if pc < 39 then
       if pc = 36 then some (.getfield 26, 39, 2, [1, 1, 14]) else none
      else
       if pc = 39 then some (.getfield 82, 42, 1, [7, 0, 8]) else none
    else
     if pc < 46 then
      if pc < 45 then
       if pc = 42 then some (.ifCond .ne 13, 45, 55, []) else none
      else
       if pc = 45 then some (.aload_n 0, 46, 0, []) else none
     else
      if pc < 48 then
       if pc = 46 then some (.aload 6, 48, 6, []) else none
      else
       if pc = 48 then some (.iload_n 2, 49, 2, []) else none
   else
    if pc < 56 then
     if pc < 52 then
      if pc < 50 then
       if pc = 49 then some (.iload_n 3, 50, 3, []) else none
      else
       if pc = 50 then some (.iload 4, 52, 4, []) else none
     else
      if pc < 55 then
       if pc = 52 then some (.invokevirtual 87, 55, 16, [5, 0, 0, 7, 3, 0, 0]) else none
      else
       if pc = 55 then some (.aload_n 0, 56, 0, []) else none
    else
     if pc < 62 then
      if pc < 59 then
       if pc = 56 then some (.getfield 53, 59, 2, [9, 0, 14]) else none
      else
       if pc = 59 then some (.ifCond .eq 17, 62, 76, []) else none
     else
      if pc < 63 then
       if pc = 62 then some (.aload_n 0, 63, 0, []) else none
      else
       if pc = 63 then some (.getfield 26, 66, 2, [1, 1, 14]) else none
 else
  if pc < 102 then
   if pc < 84 then
    if pc < 76 then
     if pc < 72 then
      if pc < 69 then
       if pc = 66 then some (.getfield 82, 69, 1, [7, 0, 8]) else none
      else
       if pc = 69 then some (.ifCond .ne 7, 72, 76, []) else none
     else
      if pc < 73 then
       if pc = 72 then some (.iconst 1, 73, 0, []) else none
      else
       if pc = 73 then some (.goto 4, 76, 77, []) else none
    else
     if pc < 79 then
      if pc < 77 then
       if pc = 76 then some (.iconst 0, 77, 0, []) else none
      else
       if pc = 77 then some (.istore 7, 79, 7, []) else none
     else
      if pc < 81 then
       if pc = 79 then some (.aload 6, 81, 6, []) else none
      else
       if pc = 81 then some (.getfield 91, 84, 5, [0, 0, 10]) else none
   else
    if pc < 93 then
     if pc < 89 then
      if pc < 87 then
       if pc = 84 then some (.ifCond .ne 25, 87, 109, []) else none
      else
       if pc = 87 then some (.iload 7, 89, 7, []) else none
     else
      if pc < 92 then
       if pc = 89 then some (.ifCond .ne 20, 92, 109, []) else none
      else
       if pc = 92 then some (.aload_n 0, 93, 0, []) else none
    else
     if pc < 99 then
      if pc < 96 then
       if pc = 93 then some (.getfield 57, 96, 2, [10, 0, 14]) else none
      else
       if pc = 96 then some (.ifCond .ne 13, 99, 109, []) else none
     else
      if pc < 100 then
       if pc = 99 then some (.aload_n 0, 100, 0, []) else none
      else
       if pc = 100 then some (.aload 6, 102, 6, []) else none
  else
   if pc < 120 then
    if pc < 110 then
     if pc < 106 then
      if pc < 104 then
       if pc = 102 then some (.iload 4, 104, 4, []) else none
      else
       if pc = 104 then some (.iload 5, 106, 5, []) else none
     else
      if pc < 109 then
       if pc = 106 then some (.invokevirtual 96, 109, 15, [4, 0, 0, 8, 3, 0, 0]) else none
      else
       if pc = 109 then some (.aload_n 0, 110, 0, []) else none
    else
     if pc < 116 then
      if pc < 113 then
       if pc = 110 then some (.getfield 26, 113, 2, [1, 1, 14]) else none
      else
       if pc = 113 then some (.getfield 82, 116, 1, [7, 0, 8]) else none
     else
      if pc < 119 then
       if pc = 116 then some (.ifCond .eq 20, 119, 136, []) else none
      else
       if pc = 119 then some (.aload_n 0, 120, 0, []) else none
   else
    if pc < 129 then
     if pc < 126 then
      if pc < 123 then
       if pc = 120 then some (.getfield 57, 123, 2, [10, 0, 14]) else none
      else
       if pc = 123 then some (.ifCond .ne 13, 126, 136, []) else none
     else
      if pc < 127 then
       if pc = 126 then some (.aload_n 0, 127, 0, []) else none
      else
       if pc = 127 then some (.aload 6, 129, 6, []) else none
    else
     if pc < 131 then
      if pc < 130 then
       if pc = 129 then some (.iload_n 2, 130, 2, []) else none
      else
       if pc = 130 then some (.iload_n 3, 131, 3, []) else none
     else
      if pc < 133 then
       if pc = 131 then some (.iload 4, 133, 4, []) else none
      else
       if pc < 136 then
        if pc = 133 then some (.invokevirtual 87, 136, 16, [5, 0, 0, 7, 3, 0, 0]) else none
       else
        if pc = 136 then some (.return_, 137, 0, []) else none

def mc_X2_visitBelow (pc : Nat) : Option mE :=
 if pc < 86 then
  if pc < 43 then
   if pc < 20 then
    if pc < 10 then
     if pc < 5 then
      if pc < 1 then
       if pc = 0 then some (.aload_n 1, 1, 1, []) else none
      else
       if pc < 4 then
        if pc = 1 then some (.getfield 100, 4, 5, [6, 0, 10]) else none
       else
        if pc = 4 then some (.iconst 4, 5, 0, []) else none
     else
      if pc < 6 then
       if pc = 5 then some (.iand, 6, 0, []) else none
      else
       if pc < 9 then
        if pc = 6 then some (.ifCond .eq 12, 9, 18, []) else none
       else
        if pc = 9 then some (.aload_n 1, 10, 1, []) else none
    else
     if pc < 15 then
      if pc < 13 then
       if pc = 10 then some (.getfield 100, 13, 5, [6, 0, 10]) else none
      else
       if pc < 14 then
        if pc = 13 then some (.iconst 1, 14, 0, []) else none
       else
        if pc = 14 then some (.iand, 15, 0, []) else none
     else
      if pc < 18 then
       if pc = 15 then some (.ifCond .ne 14, 18, 29, []) else none
      else
       if pc < 19 then
        if pc = 18 then some (.aload_n 0, 19, 0, []) else none
       else
        if pc = 19 then some (.dup, 20, 0, []) else none
   else
    if pc < 30 then
     if pc < 25 then
      if pc < 23 then
       if pc = 20 then some (.getfield 50, 23, 2, [8, 0, 14]) else none
      else
       if pc < 24 then
        if pc = 23 then some (.iconst 1, 24, 0, []) else none
       else
        if pc = 24 then some (.iadd, 25, 0, []) else none
     else
      if pc < 28 then
       if pc = 25 then some (.putfield 50, 28, 2, [8, 0, 14]) else none
      else
       if pc < 29 then
        if pc = 28 then some (.return_, 29, 0, []) else none
       else
        if pc = 29 then some (.iload_n 2, 30, 2, []) else none
    else
     if pc < 35 then
      if pc < 31 then
       if pc = 30 then some (.iconst 1, 31, 0, []) else none
      else
       if pc < 34 then
        if pc = 31 then some (.if_icmp .lt 10, 34, 41, []) else none
       else
        if pc = 34 then some (.iload_n 2, 35, 2, []) else none
     else
      if pc < 41 then
       if pc < 38 then
        if pc = 35 then some (.sipush 820, 38, 0, []) else none
       else
        if pc = 38 then some (.if_icmp .lt 4, 41, 42, []) else none
      else
       if pc < 42 then
        if pc = 41 then some (.return_, 42, 0, []) else none
       else
        if pc = 42 then some (.iload_n 2, 43, 2, []) else none
  else
   if pc < 63 then
    if pc < 52 then
     if pc < 49 then
      if pc < 45 then
       if pc = 43 then some (.istore 4, 45, 4, []) else none
      else
       if pc < 46 then
        if pc = 45 then some (.aload_n 0, 46, 0, []) else none
       else
        if pc = 46 then some (.getfield 18, 49, 2, [5, 1, 14]) else none
     else
      if pc < 50 then
       if pc = 49 then some (.iload_n 2, 50, 2, []) else none
      else
       if pc < 51 then
        if pc = 50 then some (.iconst 1, 51, 0, []) else none
       else
        if pc = 51 then some (.isub, 52, 0, []) else none
    else
     if pc < 58 then
      if pc < 53 then
       if pc = 52 then some (.caload, 53, 0, []) else none
      else
       if pc < 55 then
        if pc = 53 then some (.bipush 47, 55, 0, []) else none
       else
        if pc = 55 then some (.if_icmp .eq 16, 58, 71, []) else none
     else
      if pc < 59 then
       if pc = 58 then some (.aload_n 0, 59, 0, []) else none
      else
       if pc < 62 then
        if pc = 59 then some (.getfield 18, 62, 2, [5, 1, 14]) else none
       else
        if pc = 62 then some (.iload_n 2, 63, 2, []) else none
   else
    if pc < 71 then
     if pc < 67 then
      if pc < 65 then
       if pc = 63 then some (.bipush 47, 65, 0, []) else none
      else
       if pc < 66 then
        if pc = 65 then some (.castore, 66, 0, []) else none
       else
        if pc = 66 then some (.iload_n 2, 67, 2, []) else none
     else
      if pc < 68 then
       if pc = 67 then some (.iconst 1, 68, 0, []) else none
      else
       if pc < 69 then
        if pc = 68 then some (.iadd, 69, 0, []) else none
       else
        if pc = 69 then some (.istore 4, 71, 4, []) else none
    else
     if pc < 77 then
      if pc < 72 then
       if pc = 71 then some (.iconst 0, 72, 0, []) else none
      else
       if pc < 76 then
        if pc = 72 then some (.istore 5, 100074, 5, []) else none
       else
        if pc = 76 then some (.aload_n 1, 77, 1, []) else none
     else
      if pc < 83 then
       if pc < 80 then
        if pc = 77 then some (.getfield 103, 80, 5, [5, 0, 10]) else none
       else
        if pc = 80 then some (.if_icmp .ge 104, 83, 184, []) else none
      else
       if pc < 85 then
        if pc = 83 then some (.iload 5, 85, 5, []) else none
       else
        if pc = 85 then some (.aload_n 1, 86, 1, []) else none
 else
  if pc < 139 then
   if pc < 111 then
    if pc < 100 then
     if pc < 93 then
      if pc < 89 then
       if pc = 86 then some (.getfield 106, 89, 5, [4, 1, 10]) else none
      else
       if pc < 90 then
        if pc = 89 then some (.arraylength, 90, 0, []) else none
       else
        if pc = 90 then some (.if_icmp .ge 94, 93, 184, []) else none
     else
      if pc < 94 then
       if pc = 93 then some (.aload_n 0, 94, 0, []) else none
      else
       if pc < 97 then
        if pc = 94 then some (.getfield 57, 97, 2, [10, 0, 14]) else none
       else
        if pc = 97 then some (.ifCond .ne 87, 100, 184, []) else none
    else
     if pc < 106 then
      if pc < 101 then
       if pc = 100 then some (.aload_n 1, 101, 1, []) else none
      else
       if pc < 104 then
        if pc = 101 then some (.getfield 106, 104, 5, [4, 1, 10]) else none
       else
        if pc = 104 then some (.iload 5, 106, 5, []) else none
     else
      if pc < 107 then
       if pc = 106 then some (.aaload, 107, 0, []) else none
      else
       if pc < 109 then
        if pc = 107 then some (.astore 6, 109, 6, []) else none
       else
        if pc = 109 then some (.aload 6, 111, 6, []) else none
   else
    if pc < 123 then
     if pc < 118 then
      if pc < 114 then
       if pc = 111 then some (.ifnull 67, 114, 178, []) else none
      else
       if pc < 116 then
        if pc = 114 then some (.iload 4, 116, 4, []) else none
       else
        if pc = 116 then some (.aload 6, 118, 6, []) else none
     else
      if pc < 121 then
       if pc = 118 then some (.getfield 110, 121, 0, [0, 1, 2]) else none
      else
       if pc < 122 then
        if pc = 121 then some (.arraylength, 122, 0, []) else none
       else
        if pc = 122 then some (.iadd, 123, 0, []) else none
    else
     if pc < 131 then
      if pc < 126 then
       if pc = 123 then some (.sipush 820, 126, 0, []) else none
      else
       if pc < 129 then
        if pc = 126 then some (.if_icmp .gt 52, 129, 178, []) else none
       else
        if pc = 129 then some (.aload 6, 131, 6, []) else none
     else
      if pc < 135 then
       if pc < 134 then
        if pc = 131 then some (.getfield 110, 134, 0, [0, 1, 2]) else none
       else
        if pc = 134 then some (.arraylength, 135, 0, []) else none
      else
       if pc < 137 then
        if pc = 135 then some (.istore 7, 137, 7, []) else none
       else
        if pc = 137 then some (.aload 6, 139, 6, []) else none
  else
   if pc < 164 then
    if pc < 151 then
     if pc < 144 then
      if pc < 142 then
       if pc = 139 then some (.getfield 110, 142, 0, [0, 1, 2]) else none
      else
       if pc < 143 then
        if pc = 142 then some (.iconst 0, 143, 0, []) else none
       else
        if pc = 143 then some (.aload_n 0, 144, 0, []) else none
     else
      if pc < 147 then
       if pc = 144 then some (.getfield 18, 147, 2, [5, 1, 14]) else none
      else
       if pc < 149 then
        if pc = 147 then some (.iload 4, 149, 4, []) else none
       else
        if pc = 149 then some (.iload 7, 151, 7, []) else none
    else
     if pc < 157 then
      if pc < 154 then
       if pc = 151 then some (.invokestatic 60, 154, 1001, []) else none
      else
       if pc < 155 then
        if pc = 154 then some (.aload_n 0, 155, 0, []) else none
       else
        if pc = 155 then some (.aload 6, 157, 6, []) else none
     else
      if pc < 160 then
       if pc = 157 then some (.getfield 115, 160, 0, [1, 0, 2]) else none
      else
       if pc < 162 then
        if pc = 160 then some (.iload 4, 162, 4, []) else none
       else
        if pc = 162 then some (.iload 4, 164, 4, []) else none
   else
    if pc < 173 then
     if pc < 169 then
      if pc < 166 then
       if pc = 164 then some (.iload 7, 166, 7, []) else none
      else
       if pc < 167 then
        if pc = 166 then some (.iadd, 167, 0, []) else none
       else
        if pc = 167 then some (.iload 4, 169, 4, []) else none
     else
      if pc < 171 then
       if pc = 169 then some (.iload 7, 171, 7, []) else none
      else
       if pc < 172 then
        if pc = 171 then some (.iadd, 172, 0, []) else none
       else
        if pc = 172 then some (.iload_n 3, 173, 3, []) else none
    else
     if pc < 178 then
      if pc < 174 then
       if pc = 173 then some (.iconst 1, 174, 0, []) else none
      else
       if pc < 175 then
        if pc = 174 then some (.iadd, 175, 0, []) else none
       else
        if pc = 175 then some (.invokevirtual 72, 178, 14, [6, 0, 0, 8, 3, 0, 0]) else none
     else
      if pc < 184 then
       if pc < 181 then
        if pc = 178 then some (.iinc 5 1, 181, 5, []) else none
       else
        if pc = 181 then some (.goto (-107), 184, 100074, []) else none
      else
       if pc < 100074 then
        if pc = 184 then some (.return_, 185, 0, []) else none
       else
        if pc = 100074 then some (.iload 5, 76, 5, []) else none

def mc_X2_ask (pc : Nat) : Option mE :=
 if pc < 92 then
  if pc < 45 then
   if pc < 17 then
    if pc < 7 then
     if pc < 2 then
      if pc < 1 then
       if pc = 0 then some (.aload_n 0, 1, 0, []) else none
      else
       if pc = 1 then some (.iload_n 2, 2, 2, []) else none
     else
      if pc < 5 then
       if pc = 2 then some (.putfield 118, 5, 2, [11, 0, 14]) else none
      else
       if pc < 6 then
        if pc = 5 then some (.aload_n 0, 6, 0, []) else none
       else
        if pc = 6 then some (.iload_n 3, 7, 3, []) else none
    else
     if pc < 11 then
      if pc < 10 then
       if pc = 7 then some (.putfield 121, 10, 2, [12, 0, 14]) else none
      else
       if pc = 10 then some (.aload_n 0, 11, 0, []) else none
     else
      if pc < 13 then
       if pc = 11 then some (.iload 4, 13, 4, []) else none
      else
       if pc < 16 then
        if pc = 13 then some (.putfield 124, 16, 2, [13, 0, 14]) else none
       else
        if pc = 16 then some (.aload_n 0, 17, 0, []) else none
   else
    if pc < 29 then
     if pc < 23 then
      if pc < 20 then
       if pc = 17 then some (.getfield 12, 20, 2, [4, 1, 14]) else none
      else
       if pc = 20 then some (.invokevirtual 127, 23, 54, [1, 0, 0, 1, 9, 0, 0]) else none
     else
      if pc < 24 then
       if pc = 23 then some (.iconst 0, 24, 0, []) else none
      else
       if pc < 28 then
        if pc = 24 then some (.istore 5, 100026, 5, []) else none
       else
        if pc = 28 then some (.aload_n 0, 29, 0, []) else none
    else
     if pc < 38 then
      if pc < 32 then
       if pc = 29 then some (.getfield 26, 32, 2, [1, 1, 14]) else none
      else
       if pc < 35 then
        if pc = 32 then some (.getfield 130, 35, 1, [5, 0, 8]) else none
       else
        if pc = 35 then some (.if_icmp .ge 130, 38, 165, []) else none
     else
      if pc < 40 then
       if pc = 38 then some (.iload 5, 40, 5, []) else none
      else
       if pc < 42 then
        if pc = 40 then some (.bipush 50, 42, 0, []) else none
       else
        if pc = 42 then some (.if_icmp .ge 123, 45, 165, []) else none
  else
   if pc < 67 then
    if pc < 55 then
     if pc < 49 then
      if pc < 46 then
       if pc = 45 then some (.aload_n 0, 46, 0, []) else none
      else
       if pc = 46 then some (.getfield 26, 49, 2, [1, 1, 14]) else none
     else
      if pc < 52 then
       if pc = 49 then some (.getfield 133, 52, 1, [1, 1, 8]) else none
      else
       if pc < 54 then
        if pc = 52 then some (.iload 5, 54, 5, []) else none
       else
        if pc = 54 then some (.iaload, 55, 0, []) else none
    else
     if pc < 60 then
      if pc < 57 then
       if pc = 55 then some (.istore 6, 57, 6, []) else none
      else
       if pc < 59 then
        if pc = 57 then some (.iload 6, 59, 6, []) else none
       else
        if pc = 59 then some (.iconst 1, 60, 0, []) else none
     else
      if pc < 63 then
       if pc = 60 then some (.if_icmp .ne 13, 63, 73, []) else none
      else
       if pc < 64 then
        if pc = 63 then some (.aload_n 0, 64, 0, []) else none
       else
        if pc = 64 then some (.getfield 12, 67, 2, [4, 1, 14]) else none
   else
    if pc < 79 then
     if pc < 73 then
      if pc < 70 then
       if pc = 67 then some (.invokevirtual 137, 70, 59, [1, 0, 0, 1, 9, 0, 0]) else none
      else
       if pc = 70 then some (.goto 89, 73, 159, []) else none
     else
      if pc < 75 then
       if pc = 73 then some (.iload 6, 75, 6, []) else none
      else
       if pc < 76 then
        if pc = 75 then some (.iconst 2, 76, 0, []) else none
       else
        if pc = 76 then some (.if_icmp .ne 13, 79, 89, []) else none
    else
     if pc < 86 then
      if pc < 80 then
       if pc = 79 then some (.aload_n 0, 80, 0, []) else none
      else
       if pc < 83 then
        if pc = 80 then some (.getfield 12, 83, 2, [4, 1, 14]) else none
       else
        if pc = 83 then some (.invokevirtual 140, 86, 61, [1, 0, 0, 2, 9, 0, 0]) else none
     else
      if pc < 89 then
       if pc = 86 then some (.goto 73, 89, 159, []) else none
      else
       if pc < 91 then
        if pc = 89 then some (.iload 6, 91, 6, []) else none
       else
        if pc = 91 then some (.iconst 3, 92, 0, []) else none
 else
  if pc < 142 then
   if pc < 118 then
    if pc < 105 then
     if pc < 96 then
      if pc < 95 then
       if pc = 92 then some (.if_icmp .ne 13, 95, 105, []) else none
      else
       if pc = 95 then some (.aload_n 0, 96, 0, []) else none
     else
      if pc < 99 then
       if pc = 96 then some (.getfield 12, 99, 2, [4, 1, 14]) else none
      else
       if pc < 102 then
        if pc = 99 then some (.invokevirtual 143, 102, 62, [1, 0, 0, 2, 9, 0, 0]) else none
       else
        if pc = 102 then some (.goto 57, 105, 159, []) else none
    else
     if pc < 111 then
      if pc < 107 then
       if pc = 105 then some (.iload 6, 107, 6, []) else none
      else
       if pc < 108 then
        if pc = 107 then some (.iconst 5, 108, 0, []) else none
       else
        if pc = 108 then some (.if_icmp .ne 13, 111, 121, []) else none
     else
      if pc < 112 then
       if pc = 111 then some (.aload_n 0, 112, 0, []) else none
      else
       if pc < 115 then
        if pc = 112 then some (.getfield 12, 115, 2, [4, 1, 14]) else none
       else
        if pc = 115 then some (.invokevirtual 146, 118, 60, [1, 0, 0, 1, 9, 0, 0]) else none
   else
    if pc < 128 then
     if pc < 123 then
      if pc < 121 then
       if pc = 118 then some (.goto 41, 121, 159, []) else none
      else
       if pc = 121 then some (.iload 6, 123, 6, []) else none
     else
      if pc < 124 then
       if pc = 123 then some (.iconst 4, 124, 0, []) else none
      else
       if pc < 127 then
        if pc = 124 then some (.if_icmp .eq 35, 127, 159, []) else none
       else
        if pc = 127 then some (.aload_n 0, 128, 0, []) else none
    else
     if pc < 135 then
      if pc < 131 then
       if pc = 128 then some (.getfield 12, 131, 2, [4, 1, 14]) else none
      else
       if pc < 132 then
        if pc = 131 then some (.aload_n 0, 132, 0, []) else none
       else
        if pc = 132 then some (.getfield 12, 135, 2, [4, 1, 14]) else none
     else
      if pc < 138 then
       if pc = 135 then some (.invokevirtual 149, 138, 56, [1, 0, 0, 1, 9, 0, 0]) else none
      else
       if pc < 141 then
        if pc = 138 then some (.ifCond .eq 17, 141, 155, []) else none
       else
        if pc = 141 then some (.aload_n 0, 142, 0, []) else none
  else
   if pc < 166 then
    if pc < 152 then
     if pc < 145 then
      if pc < 143 then
       if pc = 142 then some (.aload_n 1, 143, 1, []) else none
      else
       if pc = 143 then some (.iload 5, 145, 5, []) else none
     else
      if pc < 148 then
       if pc = 145 then some (.invokevirtual 153, 148, 17, [3, 0, 0, 4, 3, 0, 0]) else none
      else
       if pc < 151 then
        if pc = 148 then some (.ifCond .eq 7, 151, 155, []) else none
       else
        if pc = 151 then some (.iconst 1, 152, 0, []) else none
    else
     if pc < 159 then
      if pc < 155 then
       if pc = 152 then some (.goto 4, 155, 156, []) else none
      else
       if pc < 156 then
        if pc = 155 then some (.iconst 0, 156, 0, []) else none
       else
        if pc = 156 then some (.invokevirtual 157, 159, 58, [2, 0, 0, 2, 9, 0, 0]) else none
     else
      if pc < 162 then
       if pc = 159 then some (.iinc 5 1, 162, 5, []) else none
      else
       if pc < 165 then
        if pc = 162 then some (.goto (-136), 165, 100026, []) else none
       else
        if pc = 165 then some (.aload_n 0, 166, 0, []) else none
   else
    if pc < 179 then
     if pc < 172 then
      if pc < 169 then
       if pc = 166 then some (.getfield 26, 169, 2, [1, 1, 14]) else none
      else
       if pc = 169 then some (.getfield 161, 172, 1, [6, 0, 8]) else none
     else
      if pc < 175 then
       if pc = 172 then some (.ifCond .ne 17, 175, 189, []) else none
      else
       if pc < 176 then
        if pc = 175 then some (.aload_n 0, 176, 0, []) else none
       else
        if pc = 176 then some (.getfield 12, 179, 2, [4, 1, 14]) else none
    else
     if pc < 186 then
      if pc < 182 then
       if pc = 179 then some (.invokevirtual 164, 182, 57, [1, 0, 0, 1, 9, 0, 0]) else none
      else
       if pc < 185 then
        if pc = 182 then some (.ifCond .eq 7, 185, 189, []) else none
       else
        if pc = 185 then some (.aload_n 0, 186, 0, []) else none
     else
      if pc < 189 then
       if pc = 186 then some (.invokevirtual 167, 189, 19, [1, 0, 0, 1, 3, 0, 0]) else none
      else
       if pc < 100026 then
        if pc = 189 then some (.return_, 190, 0, []) else none
       else
        if pc = 100026 then some (.iload 5, 28, 5, []) else none

def mc_X2_isTrue (pc : Nat) : Option mE :=
 if pc < 109 then
  if pc < 76 then
   if pc < 17 then
    if pc < 8 then
     if pc < 4 then
      if pc < 1 then
       if pc = 0 then some (.aload_n 0, 1, 0, []) else none
      else
       if pc = 1 then some (.getfield 26, 4, 2, [1, 1, 14]) else none
     else
      if pc < 7 then
       if pc = 4 then some (.getfield 170, 7, 1, [3, 1, 8]) else none
      else
       if pc = 7 then some (.iload_n 2, 8, 2, []) else none
    else
     if pc < 10 then
      if pc < 9 then
       if pc = 8 then some (.iaload, 9, 0, []) else none
      else
       if pc = 9 then some (.istore_n 3, 10, 3, []) else none
     else
      if pc < 11 then
       if pc = 10 then some (.aload_n 0, 11, 0, []) else none
      else
       if pc < 14 then
        if pc = 11 then some (.getfield 26, 14, 2, [1, 1, 14]) else none
       else
        if pc = 14 then some (.getfield 133, 17, 1, [1, 1, 8]) else none
   else
    if pc < 65 then
     if pc < 19 then
      if pc < 18 then
       if pc = 17 then some (.iload_n 2, 18, 2, []) else none
      else
       if pc = 18 then some (.iaload, 19, 0, []) else none
     else
      if pc < 64 then
       if pc = 19 then some (.tableswitch 150 6 13 #[45, 74, 88, 98, 113, 123, 137, 144], 64, 169, [64, 93, 107, 117, 132, 142, 156, 163]) else none
      else
       if pc = 64 then some (.aload_n 0, 65, 0, []) else none
    else
     if pc < 69 then
      if pc < 68 then
       if pc = 65 then some (.getfield 39, 68, 2, [3, 1, 14]) else none
      else
       if pc = 68 then some (.aload_n 0, 69, 0, []) else none
     else
      if pc < 72 then
       if pc = 69 then some (.getfield 26, 72, 2, [1, 1, 14]) else none
      else
       if pc < 75 then
        if pc = 72 then some (.getfield 173, 75, 1, [2, 1, 8]) else none
       else
        if pc = 75 then some (.iload_n 2, 76, 2, []) else none
  else
   if pc < 93 then
    if pc < 82 then
     if pc < 78 then
      if pc < 77 then
       if pc = 76 then some (.iaload, 77, 0, []) else none
      else
       if pc = 77 then some (.aload_n 0, 78, 0, []) else none
     else
      if pc < 81 then
       if pc = 78 then some (.getfield 18, 81, 2, [5, 1, 14]) else none
      else
       if pc = 81 then some (.aload_n 0, 82, 0, []) else none
    else
     if pc < 86 then
      if pc < 85 then
       if pc = 82 then some (.getfield 118, 85, 2, [11, 0, 14]) else none
      else
       if pc = 85 then some (.aload_n 0, 86, 0, []) else none
     else
      if pc < 89 then
       if pc = 86 then some (.getfield 121, 89, 2, [12, 0, 14]) else none
      else
       if pc < 92 then
        if pc = 89 then some (.invokevirtual 176, 92, 21, [5, 0, 0, 15, 4, 0, 0]) else none
       else
        if pc = 92 then some (.ireturn, 93, 2, []) else none
   else
    if pc < 102 then
     if pc < 97 then
      if pc < 94 then
       if pc = 93 then some (.aload_n 1, 94, 1, []) else none
      else
       if pc = 94 then some (.getfield 91, 97, 5, [0, 0, 10]) else none
     else
      if pc < 98 then
       if pc = 97 then some (.iload_n 3, 98, 3, []) else none
      else
       if pc < 101 then
        if pc = 98 then some (.if_icmp .ne 7, 101, 105, []) else none
       else
        if pc = 101 then some (.iconst 1, 102, 0, []) else none
    else
     if pc < 106 then
      if pc < 105 then
       if pc = 102 then some (.goto 4, 105, 106, []) else none
      else
       if pc = 105 then some (.iconst 0, 106, 0, []) else none
     else
      if pc < 107 then
       if pc = 106 then some (.ireturn, 107, 2, []) else none
      else
       if pc < 108 then
        if pc = 107 then some (.aload_n 0, 108, 0, []) else none
       else
        if pc = 108 then some (.aload_n 1, 109, 1, []) else none
 else
  if pc < 142 then
   if pc < 126 then
    if pc < 117 then
     if pc < 113 then
      if pc < 112 then
       if pc = 109 then some (.getfield 180, 112, 5, [1, 0, 10]) else none
      else
       if pc = 112 then some (.iload_n 2, 113, 2, []) else none
     else
      if pc < 116 then
       if pc = 113 then some (.invokevirtual 183, 116, 18, [3, 0, 0, 4, 3, 0, 0]) else none
      else
       if pc = 116 then some (.ireturn, 117, 2, []) else none
    else
     if pc < 119 then
      if pc < 118 then
       if pc = 117 then some (.aload_n 0, 118, 0, []) else none
      else
       if pc = 118 then some (.aload_n 0, 119, 0, []) else none
     else
      if pc < 122 then
       if pc = 119 then some (.getfield 43, 122, 2, [6, 0, 14]) else none
      else
       if pc < 123 then
        if pc = 122 then some (.aload_n 1, 123, 1, []) else none
       else
        if pc = 123 then some (.getfield 187, 126, 5, [2, 0, 10]) else none
   else
    if pc < 133 then
     if pc < 128 then
      if pc < 127 then
       if pc = 126 then some (.isub, 127, 0, []) else none
      else
       if pc = 127 then some (.iload_n 2, 128, 2, []) else none
     else
      if pc < 131 then
       if pc = 128 then some (.invokevirtual 183, 131, 18, [3, 0, 0, 4, 3, 0, 0]) else none
      else
       if pc < 132 then
        if pc = 131 then some (.ireturn, 132, 2, []) else none
       else
        if pc = 132 then some (.aload_n 0, 133, 0, []) else none
    else
     if pc < 137 then
      if pc < 134 then
       if pc = 133 then some (.aload_n 1, 134, 1, []) else none
      else
       if pc = 134 then some (.getfield 190, 137, 5, [7, 0, 10]) else none
     else
      if pc < 138 then
       if pc = 137 then some (.iload_n 2, 138, 2, []) else none
      else
       if pc < 141 then
        if pc = 138 then some (.invokevirtual 183, 141, 18, [3, 0, 0, 4, 3, 0, 0]) else none
       else
        if pc = 141 then some (.ireturn, 142, 2, []) else none
  else
   if pc < 157 then
    if pc < 150 then
     if pc < 146 then
      if pc < 143 then
       if pc = 142 then some (.aload_n 1, 143, 1, []) else none
      else
       if pc = 143 then some (.getfield 187, 146, 5, [2, 0, 10]) else none
     else
      if pc < 147 then
       if pc = 146 then some (.iload_n 3, 147, 3, []) else none
      else
       if pc = 147 then some (.if_icmp .le 7, 150, 154, []) else none
    else
     if pc < 154 then
      if pc < 151 then
       if pc = 150 then some (.iconst 1, 151, 0, []) else none
      else
       if pc = 151 then some (.goto 4, 154, 155, []) else none
     else
      if pc < 155 then
       if pc = 154 then some (.iconst 0, 155, 0, []) else none
      else
       if pc < 156 then
        if pc = 155 then some (.ireturn, 156, 2, []) else none
       else
        if pc = 156 then some (.aload_n 0, 157, 0, []) else none
   else
    if pc < 164 then
     if pc < 161 then
      if pc < 158 then
       if pc = 157 then some (.iconst 1, 158, 0, []) else none
      else
       if pc = 158 then some (.putfield 53, 161, 2, [9, 2, 14]) else none
     else
      if pc < 162 then
       if pc = 161 then some (.iconst 1, 162, 0, []) else none
      else
       if pc < 163 then
        if pc = 162 then some (.ireturn, 163, 2, []) else none
       else
        if pc = 163 then some (.aload_n 0, 164, 0, []) else none
    else
     if pc < 168 then
      if pc < 167 then
       if pc = 164 then some (.invokevirtual 167, 167, 19, [1, 0, 0, 1, 3, 0, 0]) else none
      else
       if pc = 167 then some (.iconst 1, 168, 0, []) else none
     else
      if pc < 169 then
       if pc = 168 then some (.ireturn, 169, 2, []) else none
      else
       if pc < 170 then
        if pc = 169 then some (.iconst 1, 170, 0, []) else none
       else
        if pc = 170 then some (.ireturn, 171, 2, []) else none

def mc_X2_compares (pc : Nat) : Option mE :=
 if pc < 35 then
  if pc < 18 then
   if pc < 9 then
    if pc < 4 then
     if pc < 1 then
      if pc = 0 then some (.aload_n 0, 1, 0, []) else none
     else
      if pc = 1 then some (.getfield 26, 4, 2, [1, 1, 14]) else none
    else
     if pc < 7 then
      if pc = 4 then some (.getfield 170, 7, 1, [3, 1, 8]) else none
     else
      if pc < 8 then
       if pc = 7 then some (.iload_n 2, 8, 2, []) else none
      else
       if pc = 8 then some (.iaload, 9, 0, []) else none
   else
    if pc < 11 then
     if pc < 10 then
      if pc = 9 then some (.istore_n 3, 10, 3, []) else none
     else
      if pc = 10 then some (.aload_n 0, 11, 0, []) else none
    else
     if pc < 14 then
      if pc = 11 then some (.getfield 26, 14, 2, [1, 1, 14]) else none
     else
      if pc < 17 then
       if pc = 14 then some (.getfield 193, 17, 1, [4, 1, 8]) else none
      else
       if pc = 17 then some (.iload_n 2, 18, 2, []) else none
  else
   if pc < 26 then
    if pc < 21 then
     if pc < 19 then
      if pc = 18 then some (.caload, 19, 0, []) else none
     else
      if pc = 19 then some (.bipush 43, 21, 0, []) else none
    else
     if pc < 24 then
      if pc = 21 then some (.if_icmp .ne 14, 24, 35, []) else none
     else
      if pc < 25 then
       if pc = 24 then some (.iload_n 1, 25, 1, []) else none
      else
       if pc = 25 then some (.iload_n 3, 26, 3, []) else none
   else
    if pc < 30 then
     if pc < 29 then
      if pc = 26 then some (.if_icmp .le 7, 29, 33, []) else none
     else
      if pc = 29 then some (.iconst 1, 30, 0, []) else none
    else
     if pc < 33 then
      if pc = 30 then some (.goto 4, 33, 34, []) else none
     else
      if pc < 34 then
       if pc = 33 then some (.iconst 0, 34, 0, []) else none
      else
       if pc = 34 then some (.ireturn, 35, 2, []) else none
 else
  if pc < 54 then
   if pc < 44 then
    if pc < 39 then
     if pc < 36 then
      if pc = 35 then some (.aload_n 0, 36, 0, []) else none
     else
      if pc = 36 then some (.getfield 26, 39, 2, [1, 1, 14]) else none
    else
     if pc < 42 then
      if pc = 39 then some (.getfield 193, 42, 1, [4, 1, 8]) else none
     else
      if pc < 43 then
       if pc = 42 then some (.iload_n 2, 43, 2, []) else none
      else
       if pc = 43 then some (.caload, 44, 0, []) else none
   else
    if pc < 49 then
     if pc < 46 then
      if pc = 44 then some (.bipush 45, 46, 0, []) else none
     else
      if pc = 46 then some (.if_icmp .ne 16, 49, 62, []) else none
    else
     if pc < 50 then
      if pc = 49 then some (.iload_n 1, 50, 1, []) else none
     else
      if pc < 51 then
       if pc = 50 then some (.iload_n 3, 51, 3, []) else none
      else
       if pc = 51 then some (.if_icmp .ge 7, 54, 58, []) else none
  else
   if pc < 63 then
    if pc < 58 then
     if pc < 55 then
      if pc = 54 then some (.iconst 1, 55, 0, []) else none
     else
      if pc = 55 then some (.goto 17, 58, 72, []) else none
    else
     if pc < 59 then
      if pc = 58 then some (.iconst 0, 59, 0, []) else none
     else
      if pc < 62 then
       if pc = 59 then some (.goto 13, 62, 72, []) else none
      else
       if pc = 62 then some (.iload_n 1, 63, 1, []) else none
   else
    if pc < 68 then
     if pc < 64 then
      if pc = 63 then some (.iload_n 3, 64, 3, []) else none
     else
      if pc < 67 then
       if pc = 64 then some (.if_icmp .ne 7, 67, 71, []) else none
      else
       if pc = 67 then some (.iconst 1, 68, 0, []) else none
    else
     if pc < 71 then
      if pc = 68 then some (.goto 4, 71, 72, []) else none
     else
      if pc < 72 then
       if pc = 71 then some (.iconst 0, 72, 0, []) else none
      else
       if pc = 72 then some (.ireturn, 73, 2, []) else none

def mc_X2_printPath (pc : Nat) : Option mE :=
 if pc < 23 then
  if pc < 9 then
   if pc < 4 then
    if pc < 1 then
     if pc = 0 then some (.aload_n 0, 1, 0, []) else none
    else
     if pc = 1 then some (.getfield 57, 4, 2, [10, 0, 14]) else none
   else
    if pc < 7 then
     if pc = 4 then some (.ifCond .eq 4, 7, 8, []) else none
    else
     if pc < 8 then
      if pc = 7 then some (.return_, 8, 0, []) else none
     else
      if pc = 8 then some (.aload_n 0, 9, 0, []) else none
  else
   if pc < 16 then
    if pc < 12 then
     if pc = 9 then some (.getfield 30, 12, 2, [2, 1, 14]) else none
    else
     if pc < 13 then
      if pc = 12 then some (.aload_n 0, 13, 0, []) else none
     else
      if pc = 13 then some (.getfield 18, 16, 2, [5, 1, 14]) else none
   else
    if pc < 17 then
     if pc = 16 then some (.aload_n 0, 17, 0, []) else none
    else
     if pc < 20 then
      if pc = 17 then some (.getfield 124, 20, 2, [13, 0, 14]) else none
     else
      if pc = 20 then some (.invokevirtual 196, 23, 43, [3, 0, 0, 3, 7, 0, 0]) else none
 else
  if pc < 33 then
   if pc < 28 then
    if pc < 26 then
     if pc = 23 then some (.ifCond .eq 16, 26, 39, []) else none
    else
     if pc < 27 then
      if pc = 26 then some (.aload_n 0, 27, 0, []) else none
     else
      if pc = 27 then some (.dup, 28, 0, []) else none
   else
    if pc < 31 then
     if pc = 28 then some (.getfield 47, 31, 2, [7, 0, 14]) else none
    else
     if pc < 32 then
      if pc = 31 then some (.iconst 1, 32, 0, []) else none
     else
      if pc = 32 then some (.iadd, 33, 0, []) else none
  else
   if pc < 40 then
    if pc < 36 then
     if pc = 33 then some (.putfield 47, 36, 2, [7, 0, 14]) else none
    else
     if pc < 39 then
      if pc = 36 then some (.goto 8, 39, 44, []) else none
     else
      if pc = 39 then some (.aload_n 0, 40, 0, []) else none
   else
    if pc < 41 then
     if pc = 40 then some (.iconst 1, 41, 0, []) else none
    else
     if pc < 44 then
      if pc = 41 then some (.putfield 57, 44, 2, [10, 2, 14]) else none
     else
      if pc = 44 then some (.return_, 45, 0, []) else none

def mc_X3_init (pc : Nat) : Option mE :=
 if pc < 5 then
  if pc < 1 then
   if pc = 0 then some (.aload_n 0, 1, 0, []) else none
  else
   if pc < 4 then
    if pc = 1 then some (.invokespecial 3, 4, 1000, []) else none
   else
    if pc = 4 then some (.aload_n 0, 5, 0, []) else none
 else
  if pc < 6 then
   if pc = 5 then some (.aload_n 1, 6, 1, []) else none
  else
   if pc < 9 then
    if pc = 6 then some (.putfield 9, 9, 3, [0, 1, 2]) else none
   else
    if pc = 9 then some (.return_, 10, 0, []) else none

def mc_X3_matches (pc : Nat) : Option mE :=
 if pc < 138 then
  if pc < 63 then
   if pc < 31 then
    if pc < 13 then
     if pc < 6 then
      if pc < 3 then
       if pc < 2 then
        if pc = 0 then some (.iload 4, 2, 4, []) else none
       else
        if pc = 2 then some (.iload_n 3, 3, 3, []) else none
      else
       if pc < 4 then
        if pc = 3 then some (.isub, 4, 0, []) else none
       else
        if pc = 4 then some (.istore 5, 6, 5, []) else none
     else
      if pc < 10 then
       if pc < 7 then
        if pc = 6 then some (.iload_n 3, 7, 3, []) else none
       else
        if pc = 7 then some (.ifCond .lt 22, 10, 29, []) else none
      else
       if pc < 12 then
        if pc = 10 then some (.iload 4, 12, 4, []) else none
       else
        if pc = 12 then some (.aload_n 2, 13, 2, []) else none
    else
     if pc < 22 then
      if pc < 17 then
       if pc < 14 then
        if pc = 13 then some (.arraylength, 14, 0, []) else none
       else
        if pc = 14 then some (.if_icmp .gt 15, 17, 29, []) else none
      else
       if pc < 19 then
        if pc = 17 then some (.iload 5, 19, 5, []) else none
       else
        if pc = 19 then some (.ifCond .lt 10, 22, 29, []) else none
     else
      if pc < 26 then
       if pc < 24 then
        if pc = 22 then some (.iload 5, 24, 5, []) else none
       else
        if pc = 24 then some (.bipush 14, 26, 0, []) else none
      else
       if pc < 29 then
        if pc = 26 then some (.if_icmp .le 5, 29, 31, []) else none
       else
        if pc < 30 then
         if pc = 29 then some (.iconst 0, 30, 0, []) else none
        else
         if pc = 30 then some (.ireturn, 31, 2, []) else none
   else
    if pc < 46 then
     if pc < 40 then
      if pc < 35 then
       if pc < 32 then
        if pc = 31 then some (.aload_n 0, 32, 0, []) else none
       else
        if pc = 32 then some (.getfield 9, 35, 3, [0, 1, 2]) else none
      else
       if pc < 38 then
        if pc = 35 then some (.getfield 15, 38, 4, [0, 1, 5]) else none
       else
        if pc = 38 then some (.astore 6, 40, 6, []) else none
     else
      if pc < 42 then
       if pc < 41 then
        if pc = 40 then some (.aload_n 0, 41, 0, []) else none
       else
        if pc = 41 then some (.aload_n 0, 42, 0, []) else none
      else
       if pc < 45 then
        if pc = 42 then some (.getfield 9, 45, 3, [0, 1, 2]) else none
       else
        if pc = 45 then some (.iload_n 1, 46, 1, []) else none
    else
     if pc < 55 then
      if pc < 52 then
       if pc < 49 then
        if pc = 46 then some (.invokevirtual 21, 49, 30, [2, 0, 0, 2, 5, 0, 0]) else none
       else
        if pc = 49 then some (.putfield 25, 52, 3, [1, 0, 2]) else none
      else
       if pc < 53 then
        if pc = 52 then some (.iconst 1, 53, 0, []) else none
       else
        if pc = 53 then some (.istore 7, 55, 7, []) else none
     else
      if pc < 58 then
       if pc < 56 then
        if pc = 55 then some (.iconst 0, 56, 0, []) else none
       else
        if pc = 56 then some (.istore 8, 58, 8, []) else none
      else
       if pc < 59 then
        if pc = 58 then some (.aload_n 0, 59, 0, []) else none
       else
        if pc < 62 then
         if pc = 59 then some (.getfield 9, 62, 3, [0, 1, 2]) else none
        else
         if pc = 62 then some (.iload_n 1, 63, 1, []) else none
  else
   if pc < 102 then
    if pc < 84 then
     if pc < 74 then
      if pc < 70 then
       if pc < 66 then
        if pc = 63 then some (.invokevirtual 29, 66, 29, [2, 0, 0, 2, 5, 0, 0]) else none
       else
        if pc = 66 then some (.istore 9, 100068, 9, []) else none
      else
       if pc < 71 then
        if pc = 70 then some (.aload_n 0, 71, 0, []) else none
       else
        if pc = 71 then some (.getfield 25, 74, 3, [1, 0, 2]) else none
     else
      if pc < 79 then
       if pc < 77 then
        if pc = 74 then some (.if_icmp .ge 172, 77, 246, []) else none
       else
        if pc = 77 then some (.iload 7, 79, 7, []) else none
      else
       if pc < 82 then
        if pc = 79 then some (.ifCond .eq 167, 82, 246, []) else none
       else
        if pc = 82 then some (.aload 6, 84, 6, []) else none
    else
     if pc < 92 then
      if pc < 87 then
       if pc < 86 then
        if pc = 84 then some (.iload 9, 86, 9, []) else none
       else
        if pc = 86 then some (.caload, 87, 0, []) else none
      else
       if pc < 89 then
        if pc = 87 then some (.bipush 91, 89, 0, []) else none
       else
        if pc = 89 then some (.if_icmp .ne 12, 92, 101, []) else none
     else
      if pc < 95 then
       if pc < 93 then
        if pc = 92 then some (.aload_n 0, 93, 0, []) else none
       else
        if pc = 93 then some (.iload 9, 95, 9, []) else none
      else
       if pc < 98 then
        if pc = 95 then some (.invokevirtual 32, 98, 23, [2, 0, 0, 5, 4, 0, 0]) else none
       else
        if pc < 101 then
         if pc = 98 then some (.goto 4, 101, 102, []) else none
        else
         if pc = 101 then some (.iconst (-1), 102, 0, []) else none
   else
    if pc < 119 then
     if pc < 111 then
      if pc < 106 then
       if pc < 104 then
        if pc = 102 then some (.istore 10, 104, 10, []) else none
       else
        if pc = 104 then some (.iload 9, 106, 9, []) else none
      else
       if pc < 108 then
        if pc = 106 then some (.iload 10, 108, 10, []) else none
       else
        if pc = 108 then some (.invokestatic 35, 111, 1002, []) else none
     else
      if pc < 113 then
       if pc < 112 then
        if pc = 111 then some (.iconst 1, 112, 0, []) else none
       else
        if pc = 112 then some (.iadd, 113, 0, []) else none
      else
       if pc < 115 then
        if pc = 113 then some (.istore 8, 115, 8, []) else none
       else
        if pc < 117 then
         if pc = 115 then some (.aload 6, 117, 6, []) else none
        else
         if pc = 117 then some (.iload 9, 119, 9, []) else none
    else
     if pc < 127 then
      if pc < 122 then
       if pc < 120 then
        if pc = 119 then some (.caload, 120, 0, []) else none
       else
        if pc = 120 then some (.bipush 42, 122, 0, []) else none
      else
       if pc < 125 then
        if pc = 122 then some (.if_icmp .ne 15, 125, 137, []) else none
       else
        if pc = 125 then some (.iload 7, 127, 7, []) else none
     else
      if pc < 132 then
       if pc < 129 then
        if pc = 127 then some (.iload 5, 129, 5, []) else none
       else
        if pc = 129 then some (.invokestatic 41, 132, 22, [2, 0, 0, 3]) else none
      else
       if pc < 134 then
        if pc = 132 then some (.istore 7, 134, 7, []) else none
       else
        if pc < 137 then
         if pc = 134 then some (.goto 105, 137, 239, []) else none
        else
         if pc = 137 then some (.iconst 0, 138, 0, []) else none
 else
  if pc < 204 then
   if pc < 169 then
    if pc < 154 then
     if pc < 147 then
      if pc < 141 then
       if pc < 140 then
        if pc = 138 then some (.istore 11, 140, 11, []) else none
       else
        if pc = 140 then some (.iconst 0, 141, 0, []) else none
      else
       if pc < 145 then
        if pc = 141 then some (.istore 12, 100143, 12, []) else none
       else
        if pc = 145 then some (.iload 5, 147, 5, []) else none
     else
      if pc < 151 then
       if pc < 150 then
        if pc = 147 then some (.if_icmp .ge 88, 150, 235, []) else none
       else
        if pc = 150 then some (.aload_n 2, 151, 2, []) else none
      else
       if pc < 152 then
        if pc = 151 then some (.iload_n 3, 152, 3, []) else none
       else
        if pc = 152 then some (.iload 12, 154, 12, []) else none
    else
     if pc < 160 then
      if pc < 156 then
       if pc < 155 then
        if pc = 154 then some (.iadd, 155, 0, []) else none
       else
        if pc = 155 then some (.caload, 156, 0, []) else none
      else
       if pc < 158 then
        if pc = 156 then some (.istore 13, 158, 13, []) else none
       else
        if pc = 158 then some (.iload 10, 160, 10, []) else none
     else
      if pc < 164 then
       if pc < 161 then
        if pc = 160 then some (.iconst (-1), 161, 0, []) else none
       else
        if pc = 161 then some (.if_icmp .ne 31, 164, 192, []) else none
      else
       if pc < 166 then
        if pc = 164 then some (.aload 6, 166, 6, []) else none
       else
        if pc < 168 then
         if pc = 166 then some (.iload 9, 168, 9, []) else none
        else
         if pc = 168 then some (.caload, 169, 0, []) else none
   else
    if pc < 185 then
     if pc < 178 then
      if pc < 174 then
       if pc < 171 then
        if pc = 169 then some (.bipush 63, 171, 0, []) else none
       else
        if pc = 171 then some (.if_icmp .eq 13, 174, 184, []) else none
      else
       if pc < 176 then
        if pc = 174 then some (.aload 6, 176, 6, []) else none
       else
        if pc = 176 then some (.iload 9, 178, 9, []) else none
     else
      if pc < 181 then
       if pc < 179 then
        if pc = 178 then some (.caload, 179, 0, []) else none
       else
        if pc = 179 then some (.iload 13, 181, 13, []) else none
      else
       if pc < 184 then
        if pc = 181 then some (.if_icmp .ne 7, 184, 188, []) else none
       else
        if pc = 184 then some (.iconst 1, 185, 0, []) else none
    else
     if pc < 193 then
      if pc < 189 then
       if pc < 188 then
        if pc = 185 then some (.goto 17, 188, 202, []) else none
       else
        if pc = 188 then some (.iconst 0, 189, 0, []) else none
      else
       if pc < 192 then
        if pc = 189 then some (.goto 13, 192, 202, []) else none
       else
        if pc = 192 then some (.aload_n 0, 193, 0, []) else none
     else
      if pc < 197 then
       if pc < 195 then
        if pc = 193 then some (.iload 9, 195, 9, []) else none
       else
        if pc = 195 then some (.iload 10, 197, 10, []) else none
      else
       if pc < 199 then
        if pc = 197 then some (.iload 13, 199, 13, []) else none
       else
        if pc < 202 then
         if pc = 199 then some (.invokevirtual 44, 202, 24, [4, 0, 0, 9, 4, 0, 0]) else none
        else
         if pc = 202 then some (.istore 14, 204, 14, []) else none
  else
   if pc < 235 then
    if pc < 217 then
     if pc < 213 then
      if pc < 209 then
       if pc < 206 then
        if pc = 204 then some (.iload 14, 206, 14, []) else none
       else
        if pc = 206 then some (.ifCond .eq 23, 209, 229, []) else none
      else
       if pc < 211 then
        if pc = 209 then some (.iload 7, 211, 7, []) else none
       else
        if pc = 211 then some (.iload 12, 213, 12, []) else none
     else
      if pc < 215 then
       if pc < 214 then
        if pc = 213 then some (.ishr, 214, 0, []) else none
       else
        if pc = 214 then some (.iconst 1, 215, 0, []) else none
      else
       if pc < 216 then
        if pc = 215 then some (.iand, 216, 0, []) else none
       else
        if pc = 216 then some (.iconst 1, 217, 0, []) else none
    else
     if pc < 225 then
      if pc < 222 then
       if pc < 220 then
        if pc = 217 then some (.if_icmp .ne 12, 220, 229, []) else none
       else
        if pc = 220 then some (.iload 11, 222, 11, []) else none
      else
       if pc < 223 then
        if pc = 222 then some (.iconst 2, 223, 0, []) else none
       else
        if pc = 223 then some (.iload 12, 225, 12, []) else none
     else
      if pc < 227 then
       if pc < 226 then
        if pc = 225 then some (.ishl, 226, 0, []) else none
       else
        if pc = 226 then some (.ior, 227, 0, []) else none
      else
       if pc < 229 then
        if pc = 227 then some (.istore 11, 229, 11, []) else none
       else
        if pc < 232 then
         if pc = 229 then some (.iinc 12 1, 232, 12, []) else none
        else
         if pc = 232 then some (.goto (-89), 235, 100143, []) else none
   else
    if pc < 252 then
     if pc < 243 then
      if pc < 239 then
       if pc < 237 then
        if pc = 235 then some (.iload 11, 237, 11, []) else none
       else
        if pc = 237 then some (.istore 7, 239, 7, []) else none
      else
       if pc < 241 then
        if pc = 239 then some (.iload 8, 241, 8, []) else none
       else
        if pc = 241 then some (.istore 9, 243, 9, []) else none
     else
      if pc < 248 then
       if pc < 246 then
        if pc = 243 then some (.goto (-175), 246, 100068, []) else none
       else
        if pc = 246 then some (.iload 7, 248, 7, []) else none
      else
       if pc < 250 then
        if pc = 248 then some (.iload 5, 250, 5, []) else none
       else
        if pc < 251 then
         if pc = 250 then some (.ishr, 251, 0, []) else none
        else
         if pc = 251 then some (.iconst 1, 252, 0, []) else none
    else
     if pc < 258 then
      if pc < 254 then
       if pc < 253 then
        if pc = 252 then some (.iand, 253, 0, []) else none
       else
        if pc = 253 then some (.iconst 1, 254, 0, []) else none
      else
       if pc < 257 then
        if pc = 254 then some (.if_icmp .ne 7, 257, 261, []) else none
       else
        if pc = 257 then some (.iconst 1, 258, 0, []) else none
     else
      if pc < 262 then
       if pc < 261 then
        if pc = 258 then some (.goto 4, 261, 262, []) else none
       else
        if pc = 261 then some (.iconst 0, 262, 0, []) else none
      else
       if pc < 100068 then
        if pc = 262 then some (.ireturn, 263, 2, []) else none
       else
        if pc < 100143 then
         if pc = 100068 then some (.iload 9, 70, 9, []) else none
        else
         if pc = 100143 then some (.iload 12, 145, 12, []) else none

def mc_X3_fromLeastOn (pc : Nat) : Option mE :=
 if pc < 7 then
  if pc < 3 then
   if pc < 1 then
    if pc = 0 then some (.iconst 2, 1, 0, []) else none
   else
    if pc < 2 then
     if pc = 1 then some (.iload_n 1, 2, 1, []) else none
    else
     if pc = 2 then some (.ishl, 3, 0, []) else none
  else
   if pc < 5 then
    if pc < 4 then
     if pc = 3 then some (.iconst 1, 4, 0, []) else none
    else
     if pc = 4 then some (.isub, 5, 0, []) else none
   else
    if pc < 6 then
     if pc = 5 then some (.istore_n 2, 6, 2, []) else none
    else
     if pc = 6 then some (.iload_n 2, 7, 2, []) else none
 else
  if pc < 10 then
   if pc < 8 then
    if pc = 7 then some (.iload_n 0, 8, 0, []) else none
   else
    if pc < 9 then
     if pc = 8 then some (.iload_n 0, 9, 0, []) else none
    else
     if pc = 9 then some (.ineg, 10, 0, []) else none
  else
   if pc < 12 then
    if pc < 11 then
     if pc = 10 then some (.iand, 11, 0, []) else none
    else
     if pc = 11 then some (.ineg, 12, 0, []) else none
   else
    if pc < 13 then
     if pc = 12 then some (.iand, 13, 0, []) else none
    else
     if pc = 13 then some (.ireturn, 14, 0, []) else none

def mc_X3_closing (pc : Nat) : Option mE :=
 if pc < 42 then
  if pc < 20 then
   if pc < 10 then
    if pc < 3 then
     if pc < 1 then
      if pc = 0 then some (.iload_n 1, 1, 1, []) else none
     else
      if pc < 2 then
       if pc = 1 then some (.iconst 1, 2, 0, []) else none
      else
       if pc = 2 then some (.iadd, 3, 0, []) else none
    else
     if pc < 4 then
      if pc = 3 then some (.aload_n 0, 4, 0, []) else none
     else
      if pc < 7 then
       if pc = 4 then some (.getfield 25, 7, 3, [1, 0, 2]) else none
      else
       if pc = 7 then some (.if_icmp .ge 23, 10, 30, []) else none
   else
    if pc < 17 then
     if pc < 11 then
      if pc = 10 then some (.aload_n 0, 11, 0, []) else none
     else
      if pc < 14 then
       if pc = 11 then some (.getfield 9, 14, 3, [0, 1, 2]) else none
      else
       if pc = 14 then some (.getfield 15, 17, 4, [0, 1, 5]) else none
    else
     if pc < 18 then
      if pc = 17 then some (.iload_n 1, 18, 1, []) else none
     else
      if pc < 19 then
       if pc = 18 then some (.iconst 1, 19, 0, []) else none
      else
       if pc = 19 then some (.iadd, 20, 0, []) else none
  else
   if pc < 31 then
    if pc < 26 then
     if pc < 21 then
      if pc = 20 then some (.caload, 21, 0, []) else none
     else
      if pc < 23 then
       if pc = 21 then some (.bipush 33, 23, 0, []) else none
      else
       if pc = 23 then some (.if_icmp .ne 7, 26, 30, []) else none
    else
     if pc < 27 then
      if pc = 26 then some (.iconst 1, 27, 0, []) else none
     else
      if pc < 30 then
       if pc = 27 then some (.goto 4, 30, 31, []) else none
      else
       if pc = 30 then some (.iconst 0, 31, 0, []) else none
   else
    if pc < 36 then
     if pc < 32 then
      if pc = 31 then some (.istore_n 2, 32, 2, []) else none
     else
      if pc < 33 then
       if pc = 32 then some (.iload_n 2, 33, 2, []) else none
      else
       if pc = 33 then some (.ifCond .eq 9, 36, 42, []) else none
    else
     if pc < 38 then
      if pc < 37 then
       if pc = 36 then some (.iload_n 1, 37, 1, []) else none
      else
       if pc = 37 then some (.iconst 2, 38, 0, []) else none
     else
      if pc < 39 then
       if pc = 38 then some (.iadd, 39, 0, []) else none
      else
       if pc = 39 then some (.goto 6, 42, 45, []) else none
 else
  if pc < 61 then
   if pc < 48 then
    if pc < 45 then
     if pc < 43 then
      if pc = 42 then some (.iload_n 1, 43, 1, []) else none
     else
      if pc < 44 then
       if pc = 43 then some (.iconst 1, 44, 0, []) else none
      else
       if pc = 44 then some (.iadd, 45, 0, []) else none
    else
     if pc < 46 then
      if pc = 45 then some (.istore_n 3, 46, 3, []) else none
     else
      if pc < 47 then
       if pc = 46 then some (.iload_n 3, 47, 3, []) else none
      else
       if pc = 47 then some (.iconst 1, 48, 0, []) else none
   else
    if pc < 54 then
     if pc < 49 then
      if pc = 48 then some (.iadd, 49, 0, []) else none
     else
      if pc < 53 then
       if pc = 49 then some (.istore 4, 100051, 4, []) else none
      else
       if pc = 53 then some (.aload_n 0, 54, 0, []) else none
    else
     if pc < 57 then
      if pc = 54 then some (.getfield 25, 57, 3, [1, 0, 2]) else none
     else
      if pc < 60 then
       if pc = 57 then some (.if_icmp .ge 27, 60, 84, []) else none
      else
       if pc = 60 then some (.aload_n 0, 61, 0, []) else none
  else
   if pc < 75 then
    if pc < 69 then
     if pc < 64 then
      if pc = 61 then some (.getfield 9, 64, 3, [0, 1, 2]) else none
     else
      if pc < 67 then
       if pc = 64 then some (.getfield 15, 67, 4, [0, 1, 5]) else none
      else
       if pc = 67 then some (.iload 4, 69, 4, []) else none
    else
     if pc < 70 then
      if pc = 69 then some (.caload, 70, 0, []) else none
     else
      if pc < 72 then
       if pc = 70 then some (.bipush 93, 72, 0, []) else none
      else
       if pc = 72 then some (.if_icmp .ne 6, 75, 78, []) else none
   else
    if pc < 81 then
     if pc < 77 then
      if pc = 75 then some (.iload 4, 77, 4, []) else none
     else
      if pc < 78 then
       if pc = 77 then some (.ireturn, 78, 0, []) else none
      else
       if pc = 78 then some (.iinc 4 1, 81, 4, []) else none
    else
     if pc < 85 then
      if pc < 84 then
       if pc = 81 then some (.goto (-30), 84, 100051, []) else none
      else
       if pc = 84 then some (.iconst (-1), 85, 0, []) else none
     else
      if pc < 100051 then
       if pc = 85 then some (.ireturn, 86, 0, []) else none
      else
       if pc = 100051 then some (.iload 4, 53, 4, []) else none

def mc_X3_isInSet (pc : Nat) : Option mE :=
 if pc < 73 then
  if pc < 36 then
   if pc < 18 then
    if pc < 10 then
     if pc < 4 then
      if pc < 1 then
       if pc = 0 then some (.aload_n 0, 1, 0, []) else none
      else
       if pc = 1 then some (.getfield 9, 4, 3, [0, 1, 2]) else none
     else
      if pc < 7 then
       if pc = 4 then some (.getfield 15, 7, 4, [0, 1, 5]) else none
      else
       if pc < 9 then
        if pc = 7 then some (.astore 4, 9, 4, []) else none
       else
        if pc = 9 then some (.iload_n 1, 10, 1, []) else none
    else
     if pc < 12 then
      if pc < 11 then
       if pc = 10 then some (.iconst 1, 11, 0, []) else none
      else
       if pc = 11 then some (.iadd, 12, 0, []) else none
     else
      if pc < 13 then
       if pc = 12 then some (.iload_n 2, 13, 2, []) else none
      else
       if pc < 16 then
        if pc = 13 then some (.if_icmp .ge 18, 16, 31, []) else none
       else
        if pc = 16 then some (.aload 4, 18, 4, []) else none
   else
    if pc < 24 then
     if pc < 20 then
      if pc < 19 then
       if pc = 18 then some (.iload_n 1, 19, 1, []) else none
      else
       if pc = 19 then some (.iconst 1, 20, 0, []) else none
     else
      if pc < 21 then
       if pc = 20 then some (.iadd, 21, 0, []) else none
      else
       if pc < 22 then
        if pc = 21 then some (.caload, 22, 0, []) else none
       else
        if pc = 22 then some (.bipush 33, 24, 0, []) else none
    else
     if pc < 31 then
      if pc < 27 then
       if pc = 24 then some (.if_icmp .ne 7, 27, 31, []) else none
      else
       if pc < 28 then
        if pc = 27 then some (.iconst 1, 28, 0, []) else none
       else
        if pc = 28 then some (.goto 4, 31, 32, []) else none
     else
      if pc < 32 then
       if pc = 31 then some (.iconst 0, 32, 0, []) else none
      else
       if pc < 34 then
        if pc = 32 then some (.istore 5, 34, 5, []) else none
       else
        if pc = 34 then some (.iload 5, 36, 5, []) else none
  else
   if pc < 56 then
    if pc < 45 then
     if pc < 40 then
      if pc < 39 then
       if pc = 36 then some (.ifCond .eq 9, 39, 45, []) else none
      else
       if pc = 39 then some (.iload_n 1, 40, 1, []) else none
     else
      if pc < 41 then
       if pc = 40 then some (.iconst 2, 41, 0, []) else none
      else
       if pc < 42 then
        if pc = 41 then some (.iadd, 42, 0, []) else none
       else
        if pc = 42 then some (.goto 6, 45, 48, []) else none
    else
     if pc < 48 then
      if pc < 46 then
       if pc = 45 then some (.iload_n 1, 46, 1, []) else none
      else
       if pc < 47 then
        if pc = 46 then some (.iconst 1, 47, 0, []) else none
       else
        if pc = 47 then some (.iadd, 48, 0, []) else none
     else
      if pc < 52 then
       if pc = 48 then some (.istore 6, 100050, 6, []) else none
      else
       if pc < 53 then
        if pc = 52 then some (.iload_n 2, 53, 2, []) else none
       else
        if pc = 53 then some (.if_icmp .ge 99, 56, 152, []) else none
   else
    if pc < 64 then
     if pc < 59 then
      if pc < 58 then
       if pc = 56 then some (.iload 6, 58, 6, []) else none
      else
       if pc = 58 then some (.iconst 2, 59, 0, []) else none
     else
      if pc < 60 then
       if pc = 59 then some (.iadd, 60, 0, []) else none
      else
       if pc < 61 then
        if pc = 60 then some (.iload_n 2, 61, 2, []) else none
       else
        if pc = 61 then some (.if_icmp .ge 19, 64, 80, []) else none
    else
     if pc < 69 then
      if pc < 66 then
       if pc = 64 then some (.aload 4, 66, 4, []) else none
      else
       if pc < 68 then
        if pc = 66 then some (.iload 6, 68, 6, []) else none
       else
        if pc = 68 then some (.iconst 1, 69, 0, []) else none
     else
      if pc < 70 then
       if pc = 69 then some (.iadd, 70, 0, []) else none
      else
       if pc < 71 then
        if pc = 70 then some (.caload, 71, 0, []) else none
       else
        if pc = 71 then some (.bipush 45, 73, 0, []) else none
 else
  if pc < 114 then
   if pc < 94 then
    if pc < 83 then
     if pc < 77 then
      if pc < 76 then
       if pc = 73 then some (.if_icmp .ne 7, 76, 80, []) else none
      else
       if pc = 76 then some (.iconst 1, 77, 0, []) else none
     else
      if pc < 80 then
       if pc = 77 then some (.goto 4, 80, 81, []) else none
      else
       if pc < 81 then
        if pc = 80 then some (.iconst 0, 81, 0, []) else none
       else
        if pc = 81 then some (.istore 7, 83, 7, []) else none
    else
     if pc < 90 then
      if pc < 85 then
       if pc = 83 then some (.iload 7, 85, 7, []) else none
      else
       if pc < 88 then
        if pc = 85 then some (.ifCond .eq 13, 88, 98, []) else none
       else
        if pc = 88 then some (.aload 4, 90, 4, []) else none
     else
      if pc < 92 then
       if pc = 90 then some (.iload 6, 92, 6, []) else none
      else
       if pc < 93 then
        if pc = 92 then some (.iconst 2, 93, 0, []) else none
       else
        if pc = 93 then some (.iadd, 94, 0, []) else none
   else
    if pc < 103 then
     if pc < 98 then
      if pc < 95 then
       if pc = 94 then some (.caload, 95, 0, []) else none
      else
       if pc = 95 then some (.goto 8, 98, 103, []) else none
     else
      if pc < 100 then
       if pc = 98 then some (.aload 4, 100, 4, []) else none
      else
       if pc < 102 then
        if pc = 100 then some (.iload 6, 102, 6, []) else none
       else
        if pc = 102 then some (.caload, 103, 0, []) else none
    else
     if pc < 109 then
      if pc < 105 then
       if pc = 103 then some (.istore 8, 105, 8, []) else none
      else
       if pc < 107 then
        if pc = 105 then some (.aload 4, 107, 4, []) else none
       else
        if pc = 107 then some (.iload 6, 109, 6, []) else none
     else
      if pc < 110 then
       if pc = 109 then some (.caload, 110, 0, []) else none
      else
       if pc < 111 then
        if pc = 110 then some (.iload_n 3, 111, 3, []) else none
       else
        if pc = 111 then some (.if_icmp .gt 20, 114, 131, []) else none
  else
   if pc < 135 then
    if pc < 125 then
     if pc < 117 then
      if pc < 115 then
       if pc = 114 then some (.iload_n 3, 115, 3, []) else none
      else
       if pc = 115 then some (.iload 8, 117, 8, []) else none
     else
      if pc < 120 then
       if pc = 117 then some (.if_icmp .gt 14, 120, 131, []) else none
      else
       if pc < 122 then
        if pc = 120 then some (.iload 5, 122, 5, []) else none
       else
        if pc = 122 then some (.ifCond .ne 7, 125, 129, []) else none
    else
     if pc < 130 then
      if pc < 126 then
       if pc = 125 then some (.iconst 1, 126, 0, []) else none
      else
       if pc < 129 then
        if pc = 126 then some (.goto 4, 129, 130, []) else none
       else
        if pc = 129 then some (.iconst 0, 130, 0, []) else none
     else
      if pc < 131 then
       if pc = 130 then some (.ireturn, 131, 2, []) else none
      else
       if pc < 133 then
        if pc = 131 then some (.iload 6, 133, 6, []) else none
       else
        if pc = 133 then some (.iload 7, 135, 7, []) else none
   else
    if pc < 144 then
     if pc < 139 then
      if pc < 138 then
       if pc = 135 then some (.ifCond .eq 7, 138, 142, []) else none
      else
       if pc = 138 then some (.iconst 2, 139, 0, []) else none
     else
      if pc < 142 then
       if pc = 139 then some (.goto 4, 142, 143, []) else none
      else
       if pc < 143 then
        if pc = 142 then some (.iconst 0, 143, 0, []) else none
       else
        if pc = 143 then some (.iadd, 144, 0, []) else none
    else
     if pc < 152 then
      if pc < 146 then
       if pc = 144 then some (.istore 6, 146, 6, []) else none
      else
       if pc < 149 then
        if pc = 146 then some (.iinc 6 1, 149, 6, []) else none
       else
        if pc = 149 then some (.goto (-99), 152, 100050, []) else none
     else
      if pc < 154 then
       if pc = 152 then some (.iload 5, 154, 5, []) else none
      else
       if pc < 100050 then
        if pc = 154 then some (.ireturn, 155, 2, []) else none
       else
        if pc = 100050 then some (.iload 6, 52, 6, []) else none

def mc_X4_init (pc : Nat) : Option mE :=
 if pc < 13 then
  if pc < 5 then
   if pc < 1 then
    if pc = 0 then some (.aload_n 0, 1, 0, []) else none
   else
    if pc < 4 then
     if pc = 1 then some (.invokespecial 3, 4, 1000, []) else none
    else
     if pc = 4 then some (.aload_n 0, 5, 0, []) else none
  else
   if pc < 9 then
    if pc < 7 then
     if pc = 5 then some (.bipush 100, 7, 0, []) else none
    else
     if pc = 7 then some (.newarray .char, 9, 21, []) else none
   else
    if pc < 12 then
     if pc = 9 then some (.putfield 9, 12, 4, [0, 1, 5]) else none
    else
     if pc = 12 then some (.aload_n 0, 13, 0, []) else none
 else
  if pc < 21 then
   if pc < 17 then
    if pc < 15 then
     if pc = 13 then some (.bipush 50, 15, 0, []) else none
    else
     if pc = 15 then some (.newarray .int, 17, 20, []) else none
   else
    if pc < 20 then
     if pc = 17 then some (.putfield 15, 20, 4, [1, 1, 5]) else none
    else
     if pc = 20 then some (.aload_n 0, 21, 0, []) else none
  else
   if pc < 25 then
    if pc < 23 then
     if pc = 21 then some (.bipush 50, 23, 0, []) else none
    else
     if pc = 23 then some (.newarray .int, 25, 20, []) else none
   else
    if pc < 28 then
     if pc = 25 then some (.putfield 19, 28, 4, [2, 1, 5]) else none
    else
     if pc = 28 then some (.return_, 29, 0, []) else none

def mc_X4_charactersIn (pc : Nat) : Option mE :=
 if pc < 12 then
  if pc < 6 then
   if pc < 2 then
    if pc < 1 then
     if pc = 0 then some (.iconst 0, 1, 0, []) else none
    else
     if pc = 1 then some (.istore_n 1, 2, 1, []) else none
   else
    if pc < 4 then
     if pc = 2 then some (.bipush 24, 4, 0, []) else none
    else
     if pc = 4 then some (.istore_n 2, 100005, 2, []) else none
  else
   if pc < 10 then
    if pc < 9 then
     if pc = 6 then some (.ifCond .lt 22, 9, 28, []) else none
    else
     if pc = 9 then some (.iload_n 0, 10, 0, []) else none
   else
    if pc < 11 then
     if pc = 10 then some (.iload_n 2, 11, 2, []) else none
    else
     if pc = 11 then some (.iushr, 12, 0, []) else none
 else
  if pc < 22 then
   if pc < 16 then
    if pc < 15 then
     if pc = 12 then some (.sipush 255, 15, 0, []) else none
    else
     if pc = 15 then some (.iand, 16, 0, []) else none
   else
    if pc < 19 then
     if pc = 16 then some (.ifCond .eq 6, 19, 22, []) else none
    else
     if pc = 19 then some (.iinc 1 1, 22, 1, []) else none
  else
   if pc < 28 then
    if pc < 25 then
     if pc = 22 then some (.iinc 2 (-8), 25, 2, []) else none
    else
     if pc = 25 then some (.goto (-20), 28, 100005, []) else none
   else
    if pc < 29 then
     if pc = 28 then some (.iload_n 1, 29, 1, []) else none
    else
     if pc < 100005 then
      if pc = 29 then some (.ireturn, 30, 0, []) else none
     else
      if pc = 100005 then some (.iload_n 2, 6, 2, []) else none

def mc_X4_add (pc : Nat) : Option mE :=
 if pc < 29 then
  if pc < 14 then
   if pc < 8 then
    if pc < 4 then
     if pc < 2 then
      if pc = 0 then some (.bipush 24, 2, 0, []) else none
     else
      if pc = 2 then some (.istore_n 2, 100003, 2, []) else none
    else
     if pc < 7 then
      if pc = 4 then some (.ifCond .lt 51, 7, 55, []) else none
     else
      if pc = 7 then some (.iload_n 1, 8, 1, []) else none
   else
    if pc < 10 then
     if pc < 9 then
      if pc = 8 then some (.iload_n 2, 9, 2, []) else none
     else
      if pc = 9 then some (.iushr, 10, 0, []) else none
    else
     if pc < 13 then
      if pc = 10 then some (.sipush 255, 13, 0, []) else none
     else
      if pc = 13 then some (.iand, 14, 0, []) else none
  else
   if pc < 20 then
    if pc < 16 then
     if pc < 15 then
      if pc = 14 then some (.istore_n 3, 15, 3, []) else none
     else
      if pc = 15 then some (.iload_n 3, 16, 3, []) else none
    else
     if pc < 19 then
      if pc = 16 then some (.ifCond .eq 33, 19, 49, []) else none
     else
      if pc = 19 then some (.aload_n 0, 20, 0, []) else none
   else
    if pc < 25 then
     if pc < 23 then
      if pc = 20 then some (.getfield 22, 23, 4, [3, 0, 5]) else none
     else
      if pc = 23 then some (.bipush 100, 25, 0, []) else none
    else
     if pc < 28 then
      if pc = 25 then some (.if_icmp .ge 24, 28, 49, []) else none
     else
      if pc = 28 then some (.aload_n 0, 29, 0, []) else none
 else
  if pc < 41 then
   if pc < 37 then
    if pc < 33 then
     if pc < 32 then
      if pc = 29 then some (.getfield 9, 32, 4, [0, 1, 5]) else none
     else
      if pc = 32 then some (.aload_n 0, 33, 0, []) else none
    else
     if pc < 36 then
      if pc = 33 then some (.getfield 22, 36, 4, [3, 0, 5]) else none
     else
      if pc = 36 then some (.iload_n 3, 37, 3, []) else none
   else
    if pc < 39 then
     if pc < 38 then
      if pc = 37 then some (.i2c, 38, 0, []) else none
     else
      if pc = 38 then some (.castore, 39, 0, []) else none
    else
     if pc < 40 then
      if pc = 39 then some (.aload_n 0, 40, 0, []) else none
     else
      if pc = 40 then some (.dup, 41, 0, []) else none
  else
   if pc < 49 then
    if pc < 45 then
     if pc < 44 then
      if pc = 41 then some (.getfield 22, 44, 4, [3, 0, 5]) else none
     else
      if pc = 44 then some (.iconst 1, 45, 0, []) else none
    else
     if pc < 46 then
      if pc = 45 then some (.iadd, 46, 0, []) else none
     else
      if pc = 46 then some (.putfield 22, 49, 4, [3, 0, 5]) else none
   else
    if pc < 55 then
     if pc < 52 then
      if pc = 49 then some (.iinc 2 (-8), 52, 2, []) else none
     else
      if pc = 52 then some (.goto (-49), 55, 100003, []) else none
    else
     if pc < 100003 then
      if pc = 55 then some (.return_, 56, 0, []) else none
     else
      if pc = 100003 then some (.iload_n 2, 4, 2, []) else none

def mc_X4_split (pc : Nat) : Option mE :=
 if pc < 62 then
  if pc < 29 then
   if pc < 11 then
    if pc < 6 then
     if pc < 2 then
      if pc < 1 then
       if pc = 0 then some (.aload_n 0, 1, 0, []) else none
      else
       if pc = 1 then some (.iconst 0, 2, 0, []) else none
     else
      if pc < 5 then
       if pc = 2 then some (.putfield 26, 5, 4, [4, 0, 5]) else none
      else
       if pc = 5 then some (.iconst 0, 6, 0, []) else none
    else
     if pc < 8 then
      if pc < 7 then
       if pc = 6 then some (.istore_n 1, 7, 1, []) else none
      else
       if pc = 7 then some (.iconst 0, 8, 0, []) else none
     else
      if pc < 10 then
       if pc = 8 then some (.istore_n 2, 100009, 2, []) else none
      else
       if pc = 10 then some (.aload_n 0, 11, 0, []) else none
   else
    if pc < 20 then
     if pc < 17 then
      if pc < 14 then
       if pc = 11 then some (.getfield 22, 14, 4, [3, 0, 5]) else none
      else
       if pc = 14 then some (.if_icmp .ge 104, 17, 118, []) else none
     else
      if pc < 18 then
       if pc = 17 then some (.iload_n 2, 18, 2, []) else none
      else
       if pc = 18 then some (.bipush 100, 20, 0, []) else none
    else
     if pc < 24 then
      if pc < 23 then
       if pc = 20 then some (.if_icmp .ge 98, 23, 118, []) else none
      else
       if pc = 23 then some (.aload_n 0, 24, 0, []) else none
     else
      if pc < 27 then
       if pc = 24 then some (.getfield 9, 27, 4, [0, 1, 5]) else none
      else
       if pc < 28 then
        if pc = 27 then some (.iload_n 2, 28, 2, []) else none
       else
        if pc = 28 then some (.caload, 29, 0, []) else none
  else
   if pc < 44 then
    if pc < 38 then
     if pc < 34 then
      if pc < 31 then
       if pc = 29 then some (.bipush 32, 31, 0, []) else none
      else
       if pc = 31 then some (.if_icmp .ne 7, 34, 38, []) else none
     else
      if pc < 35 then
       if pc = 34 then some (.iconst 1, 35, 0, []) else none
      else
       if pc = 35 then some (.goto 4, 38, 39, []) else none
    else
     if pc < 40 then
      if pc < 39 then
       if pc = 38 then some (.iconst 0, 39, 0, []) else none
      else
       if pc = 39 then some (.istore_n 3, 40, 3, []) else none
     else
      if pc < 41 then
       if pc = 40 then some (.iload_n 3, 41, 3, []) else none
      else
       if pc = 41 then some (.ifCond .ne 36, 44, 77, []) else none
   else
    if pc < 52 then
     if pc < 48 then
      if pc < 45 then
       if pc = 44 then some (.iload_n 1, 45, 1, []) else none
      else
       if pc = 45 then some (.ifCond .ne 32, 48, 77, []) else none
     else
      if pc < 49 then
       if pc = 48 then some (.aload_n 0, 49, 0, []) else none
      else
       if pc = 49 then some (.getfield 26, 52, 4, [4, 0, 5]) else none
    else
     if pc < 57 then
      if pc < 54 then
       if pc = 52 then some (.bipush 50, 54, 0, []) else none
      else
       if pc = 54 then some (.if_icmp .ge 23, 57, 77, []) else none
     else
      if pc < 58 then
       if pc = 57 then some (.aload_n 0, 58, 0, []) else none
      else
       if pc < 61 then
        if pc = 58 then some (.getfield 15, 61, 4, [1, 1, 5]) else none
       else
        if pc = 61 then some (.aload_n 0, 62, 0, []) else none
 else
  if pc < 93 then
   if pc < 74 then
    if pc < 68 then
     if pc < 66 then
      if pc < 65 then
       if pc = 62 then some (.getfield 26, 65, 4, [4, 0, 5]) else none
      else
       if pc = 65 then some (.iload_n 2, 66, 2, []) else none
     else
      if pc < 67 then
       if pc = 66 then some (.iastore, 67, 0, []) else none
      else
       if pc = 67 then some (.aload_n 0, 68, 0, []) else none
    else
     if pc < 72 then
      if pc < 69 then
       if pc = 68 then some (.dup, 69, 0, []) else none
      else
       if pc = 69 then some (.getfield 26, 72, 4, [4, 0, 5]) else none
     else
      if pc < 73 then
       if pc = 72 then some (.iconst 1, 73, 0, []) else none
      else
       if pc = 73 then some (.iadd, 74, 0, []) else none
   else
    if pc < 82 then
     if pc < 78 then
      if pc < 77 then
       if pc = 74 then some (.putfield 26, 77, 4, [4, 0, 5]) else none
      else
       if pc = 77 then some (.iload_n 3, 78, 3, []) else none
     else
      if pc < 81 then
       if pc = 78 then some (.ifCond .ne 24, 81, 102, []) else none
      else
       if pc = 81 then some (.aload_n 0, 82, 0, []) else none
    else
     if pc < 88 then
      if pc < 85 then
       if pc = 82 then some (.getfield 26, 85, 4, [4, 0, 5]) else none
      else
       if pc = 85 then some (.ifCond .le 17, 88, 102, []) else none
     else
      if pc < 89 then
       if pc = 88 then some (.aload_n 0, 89, 0, []) else none
      else
       if pc < 92 then
        if pc = 89 then some (.getfield 19, 92, 4, [2, 1, 5]) else none
       else
        if pc = 92 then some (.aload_n 0, 93, 0, []) else none
  else
   if pc < 103 then
    if pc < 99 then
     if pc < 97 then
      if pc < 96 then
       if pc = 93 then some (.getfield 26, 96, 4, [4, 0, 5]) else none
      else
       if pc = 96 then some (.iconst 1, 97, 0, []) else none
     else
      if pc < 98 then
       if pc = 97 then some (.isub, 98, 0, []) else none
      else
       if pc = 98 then some (.iload_n 2, 99, 2, []) else none
    else
     if pc < 101 then
      if pc < 100 then
       if pc = 99 then some (.iconst 1, 100, 0, []) else none
      else
       if pc = 100 then some (.iadd, 101, 0, []) else none
     else
      if pc < 102 then
       if pc = 101 then some (.iastore, 102, 0, []) else none
      else
       if pc = 102 then some (.iload_n 3, 103, 3, []) else none
   else
    if pc < 111 then
     if pc < 107 then
      if pc < 106 then
       if pc = 103 then some (.ifCond .ne 7, 106, 110, []) else none
      else
       if pc = 106 then some (.iconst 1, 107, 0, []) else none
     else
      if pc < 110 then
       if pc = 107 then some (.goto 4, 110, 111, []) else none
      else
       if pc = 110 then some (.iconst 0, 111, 0, []) else none
    else
     if pc < 115 then
      if pc < 112 then
       if pc = 111 then some (.istore_n 1, 112, 1, []) else none
      else
       if pc = 112 then some (.iinc 2 1, 115, 2, []) else none
     else
      if pc < 118 then
       if pc = 115 then some (.goto (-106), 118, 100009, []) else none
      else
       if pc < 100009 then
        if pc = 118 then some (.return_, 119, 0, []) else none
       else
        if pc = 100009 then some (.iload_n 2, 10, 2, []) else none

def mc_X4_start (pc : Nat) : Option mE :=
 if pc < 15 then
  if pc < 6 then
   if pc < 4 then
    if pc < 1 then
     if pc = 0 then some (.iload_n 1, 1, 1, []) else none
    else
     if pc = 1 then some (.ifCond .lt 26, 4, 27, []) else none
   else
    if pc < 5 then
     if pc = 4 then some (.iload_n 1, 5, 1, []) else none
    else
     if pc = 5 then some (.aload_n 0, 6, 0, []) else none
  else
   if pc < 12 then
    if pc < 9 then
     if pc = 6 then some (.getfield 26, 9, 4, [4, 0, 5]) else none
    else
     if pc = 9 then some (.if_icmp .ge 18, 12, 27, []) else none
   else
    if pc < 13 then
     if pc = 12 then some (.iload_n 1, 13, 1, []) else none
    else
     if pc = 13 then some (.bipush 50, 15, 0, []) else none
 else
  if pc < 23 then
   if pc < 19 then
    if pc < 18 then
     if pc = 15 then some (.if_icmp .ge 12, 18, 27, []) else none
    else
     if pc = 18 then some (.aload_n 0, 19, 0, []) else none
   else
    if pc < 22 then
     if pc = 19 then some (.getfield 15, 22, 4, [1, 1, 5]) else none
    else
     if pc = 22 then some (.iload_n 1, 23, 1, []) else none
  else
   if pc < 27 then
    if pc < 24 then
     if pc = 23 then some (.iaload, 24, 0, []) else none
    else
     if pc = 24 then some (.goto 4, 27, 28, []) else none
   else
    if pc < 28 then
     if pc = 27 then some (.iconst 0, 28, 0, []) else none
    else
     if pc = 28 then some (.ireturn, 29, 0, []) else none

def mc_X4_end (pc : Nat) : Option mE :=
 if pc < 15 then
  if pc < 6 then
   if pc < 4 then
    if pc < 1 then
     if pc = 0 then some (.iload_n 1, 1, 1, []) else none
    else
     if pc = 1 then some (.ifCond .lt 26, 4, 27, []) else none
   else
    if pc < 5 then
     if pc = 4 then some (.iload_n 1, 5, 1, []) else none
    else
     if pc = 5 then some (.aload_n 0, 6, 0, []) else none
  else
   if pc < 12 then
    if pc < 9 then
     if pc = 6 then some (.getfield 26, 9, 4, [4, 0, 5]) else none
    else
     if pc = 9 then some (.if_icmp .ge 18, 12, 27, []) else none
   else
    if pc < 13 then
     if pc = 12 then some (.iload_n 1, 13, 1, []) else none
    else
     if pc = 13 then some (.bipush 50, 15, 0, []) else none
 else
  if pc < 23 then
   if pc < 19 then
    if pc < 18 then
     if pc = 15 then some (.if_icmp .ge 12, 18, 27, []) else none
    else
     if pc = 18 then some (.aload_n 0, 19, 0, []) else none
   else
    if pc < 22 then
     if pc = 19 then some (.getfield 19, 22, 4, [2, 1, 5]) else none
    else
     if pc = 22 then some (.iload_n 1, 23, 1, []) else none
  else
   if pc < 27 then
    if pc < 24 then
     if pc = 23 then some (.iaload, 24, 0, []) else none
    else
     if pc = 24 then some (.goto 4, 27, 28, []) else none
   else
    if pc < 28 then
     if pc = 27 then some (.iconst 0, 28, 0, []) else none
    else
     if pc = 28 then some (.ireturn, 29, 0, []) else none

def mc_X4_wordLength (pc : Nat) : Option mE :=
 if pc < 6 then
  if pc < 2 then
   if pc < 1 then
    if pc = 0 then some (.aload_n 0, 1, 0, []) else none
   else
    if pc = 1 then some (.iload_n 1, 2, 1, []) else none
  else
   if pc < 5 then
    if pc = 2 then some (.invokevirtual 29, 5, 30, [2, 0, 0, 2, 5, 0, 0]) else none
   else
    if pc = 5 then some (.aload_n 0, 6, 0, []) else none
 else
  if pc < 10 then
   if pc < 7 then
    if pc = 6 then some (.iload_n 1, 7, 1, []) else none
   else
    if pc = 7 then some (.invokevirtual 33, 10, 29, [2, 0, 0, 2, 5, 0, 0]) else none
  else
   if pc < 11 then
    if pc = 10 then some (.isub, 11, 0, []) else none
   else
    if pc = 11 then some (.ireturn, 12, 0, []) else none

def mc_X4_letter (pc : Nat) : Option mE :=
 if pc < 17 then
  if pc < 6 then
   if pc < 4 then
    if pc < 1 then
     if pc = 0 then some (.iload_n 2, 1, 2, []) else none
    else
     if pc = 1 then some (.ifCond .lt 27, 4, 28, []) else none
   else
    if pc < 5 then
     if pc = 4 then some (.iload_n 2, 5, 2, []) else none
    else
     if pc = 5 then some (.aload_n 0, 6, 0, []) else none
  else
   if pc < 10 then
    if pc < 7 then
     if pc = 6 then some (.iload_n 1, 7, 1, []) else none
    else
     if pc = 7 then some (.invokevirtual 36, 10, 31, [2, 0, 0, 2, 5, 0, 0]) else none
   else
    if pc < 13 then
     if pc = 10 then some (.if_icmp .ge 18, 13, 28, []) else none
    else
     if pc < 14 then
      if pc = 13 then some (.aload_n 0, 14, 0, []) else none
     else
      if pc = 14 then some (.getfield 9, 17, 4, [0, 1, 5]) else none
 else
  if pc < 23 then
   if pc < 19 then
    if pc < 18 then
     if pc = 17 then some (.aload_n 0, 18, 0, []) else none
    else
     if pc = 18 then some (.iload_n 1, 19, 1, []) else none
   else
    if pc < 22 then
     if pc = 19 then some (.invokevirtual 33, 22, 29, [2, 0, 0, 2, 5, 0, 0]) else none
    else
     if pc = 22 then some (.iload_n 2, 23, 2, []) else none
  else
   if pc < 25 then
    if pc < 24 then
     if pc = 23 then some (.iadd, 24, 0, []) else none
    else
     if pc = 24 then some (.caload, 25, 0, []) else none
   else
    if pc < 28 then
     if pc = 25 then some (.goto 4, 28, 29, []) else none
    else
     if pc < 29 then
      if pc = 28 then some (.iconst 0, 29, 0, []) else none
     else
      if pc = 29 then some (.ireturn, 30, 3, []) else none

def mc_X4_is (pc : Nat) : Option mE :=
 if pc < 25 then
  if pc < 13 then
   if pc < 5 then
    if pc < 1 then
     if pc = 0 then some (.aload_n 0, 1, 0, []) else none
    else
     if pc < 2 then
      if pc = 1 then some (.iload_n 1, 2, 1, []) else none
     else
      if pc = 2 then some (.invokevirtual 36, 5, 31, [2, 0, 0, 2, 5, 0, 0]) else none
   else
    if pc < 9 then
     if pc < 6 then
      if pc = 5 then some (.aload_n 2, 6, 2, []) else none
     else
      if pc = 6 then some (.invokevirtual 39, 9, 148, [1, 0, 0, 1, 13, 0, 0]) else none
    else
     if pc < 12 then
      if pc = 9 then some (.if_icmp .eq 5, 12, 14, []) else none
     else
      if pc = 12 then some (.iconst 0, 13, 0, []) else none
  else
   if pc < 17 then
    if pc < 14 then
     if pc = 13 then some (.ireturn, 14, 2, []) else none
    else
     if pc < 15 then
      if pc = 14 then some (.iconst 0, 15, 0, []) else none
     else
      if pc = 15 then some (.istore_n 3, 100016, 3, []) else none
   else
    if pc < 21 then
     if pc < 18 then
      if pc = 17 then some (.aload_n 2, 18, 2, []) else none
     else
      if pc = 18 then some (.invokevirtual 39, 21, 148, [1, 0, 0, 1, 13, 0, 0]) else none
    else
     if pc < 24 then
      if pc = 21 then some (.if_icmp .ge 25, 24, 46, []) else none
     else
      if pc = 24 then some (.aload_n 0, 25, 0, []) else none
 else
  if pc < 38 then
   if pc < 30 then
    if pc < 26 then
     if pc = 25 then some (.iload_n 1, 26, 1, []) else none
    else
     if pc < 27 then
      if pc = 26 then some (.iload_n 3, 27, 3, []) else none
     else
      if pc = 27 then some (.invokevirtual 44, 30, 32, [3, 0, 0, 3, 5, 0, 0]) else none
   else
    if pc < 32 then
     if pc < 31 then
      if pc = 30 then some (.aload_n 2, 31, 2, []) else none
     else
      if pc = 31 then some (.iload_n 3, 32, 3, []) else none
    else
     if pc < 35 then
      if pc = 32 then some (.invokevirtual 48, 35, 149, [2, 0, 0, 2, 13, 0, 0]) else none
     else
      if pc = 35 then some (.if_icmp .eq 5, 38, 40, []) else none
  else
   if pc < 43 then
    if pc < 39 then
     if pc = 38 then some (.iconst 0, 39, 0, []) else none
    else
     if pc < 40 then
      if pc = 39 then some (.ireturn, 40, 2, []) else none
     else
      if pc = 40 then some (.iinc 3 1, 43, 3, []) else none
   else
    if pc < 47 then
     if pc < 46 then
      if pc = 43 then some (.goto (-27), 46, 100016, []) else none
     else
      if pc = 46 then some (.iconst 1, 47, 0, []) else none
    else
     if pc < 100016 then
      if pc = 47 then some (.ireturn, 48, 2, []) else none
     else
      if pc = 100016 then some (.iload_n 3, 17, 3, []) else none

def mc_X4_beginsWithPath (pc : Nat) : Option mE :=
 if pc < 20 then
  if pc < 9 then
   if pc < 4 then
    if pc < 1 then
     if pc = 0 then some (.aload_n 0, 1, 0, []) else none
    else
     if pc = 1 then some (.getfield 26, 4, 4, [4, 0, 5]) else none
   else
    if pc < 7 then
     if pc = 4 then some (.ifCond .le 38, 7, 42, []) else none
    else
     if pc < 8 then
      if pc = 7 then some (.aload_n 0, 8, 0, []) else none
     else
      if pc = 8 then some (.iconst 0, 9, 0, []) else none
  else
   if pc < 15 then
    if pc < 10 then
     if pc = 9 then some (.iconst 0, 10, 0, []) else none
    else
     if pc < 13 then
      if pc = 10 then some (.invokevirtual 44, 13, 32, [3, 0, 0, 3, 5, 0, 0]) else none
     else
      if pc = 13 then some (.bipush 45, 15, 0, []) else none
   else
    if pc < 18 then
     if pc = 15 then some (.if_icmp .eq 27, 18, 42, []) else none
    else
     if pc < 19 then
      if pc = 18 then some (.aload_n 0, 19, 0, []) else none
     else
      if pc = 19 then some (.iconst 0, 20, 0, []) else none
 else
  if pc < 32 then
   if pc < 28 then
    if pc < 22 then
     if pc = 20 then some (.ldc 52, 22, 1, [2]) else none
    else
     if pc < 25 then
      if pc = 22 then some (.invokevirtual 54, 25, 33, [3, 0, 0, 4, 5, 0, 0]) else none
     else
      if pc = 25 then some (.ifCond .ne 17, 28, 42, []) else none
   else
    if pc < 29 then
     if pc = 28 then some (.aload_n 0, 29, 0, []) else none
    else
     if pc < 30 then
      if pc = 29 then some (.iconst 0, 30, 0, []) else none
     else
      if pc = 30 then some (.ldc 58, 32, 1, [1]) else none
  else
   if pc < 39 then
    if pc < 35 then
     if pc = 32 then some (.invokevirtual 54, 35, 33, [3, 0, 0, 4, 5, 0, 0]) else none
    else
     if pc < 38 then
      if pc = 35 then some (.ifCond .ne 7, 38, 42, []) else none
     else
      if pc = 38 then some (.iconst 1, 39, 0, []) else none
   else
    if pc < 42 then
     if pc = 39 then some (.goto 4, 42, 43, []) else none
    else
     if pc < 43 then
      if pc = 42 then some (.iconst 0, 43, 0, []) else none
     else
      if pc = 43 then some (.ireturn, 44, 2, []) else none

def mc_X4_lastStepEnd (pc : Nat) : Option mE :=
 if pc < 18 then
  if pc < 7 then
   if pc < 2 then
    if pc < 1 then
     if pc = 0 then some (.aload_n 0, 1, 0, []) else none
    else
     if pc = 1 then some (.iload_n 1, 2, 1, []) else none
   else
    if pc < 5 then
     if pc = 2 then some (.invokevirtual 33, 5, 29, [2, 0, 0, 2, 5, 0, 0]) else none
    else
     if pc < 6 then
      if pc = 5 then some (.istore_n 2, 6, 2, []) else none
     else
      if pc = 6 then some (.aload_n 0, 7, 0, []) else none
  else
   if pc < 13 then
    if pc < 8 then
     if pc = 7 then some (.iload_n 1, 8, 1, []) else none
    else
     if pc < 11 then
      if pc = 8 then some (.invokevirtual 29, 11, 30, [2, 0, 0, 2, 5, 0, 0]) else none
     else
      if pc = 11 then some (.istore_n 3, 100012, 3, []) else none
   else
    if pc < 14 then
     if pc = 13 then some (.iload_n 2, 14, 2, []) else none
    else
     if pc < 17 then
      if pc = 14 then some (.if_icmp .le 22, 17, 36, []) else none
     else
      if pc = 17 then some (.aload_n 0, 18, 0, []) else none
 else
  if pc < 27 then
   if pc < 23 then
    if pc < 21 then
     if pc = 18 then some (.getfield 9, 21, 4, [0, 1, 5]) else none
    else
     if pc < 22 then
      if pc = 21 then some (.iload_n 3, 22, 3, []) else none
     else
      if pc = 22 then some (.iconst 1, 23, 0, []) else none
   else
    if pc < 24 then
     if pc = 23 then some (.isub, 24, 0, []) else none
    else
     if pc < 25 then
      if pc = 24 then some (.caload, 25, 0, []) else none
     else
      if pc = 25 then some (.bipush 47, 27, 0, []) else none
  else
   if pc < 36 then
    if pc < 30 then
     if pc = 27 then some (.if_icmp .ne 9, 30, 36, []) else none
    else
     if pc < 33 then
      if pc = 30 then some (.iinc 3 (-1), 33, 3, []) else none
     else
      if pc = 33 then some (.goto (-21), 36, 100012, []) else none
   else
    if pc < 37 then
     if pc = 36 then some (.iload_n 3, 37, 3, []) else none
    else
     if pc < 100012 then
      if pc = 37 then some (.ireturn, 38, 0, []) else none
     else
      if pc = 100012 then some (.iload_n 3, 13, 3, []) else none

def mc_X4_lastStepStart (pc : Nat) : Option mE :=
 if pc < 18 then
  if pc < 7 then
   if pc < 2 then
    if pc < 1 then
     if pc = 0 then some (.aload_n 0, 1, 0, []) else none
    else
     if pc = 1 then some (.iload_n 1, 2, 1, []) else none
   else
    if pc < 5 then
     if pc = 2 then some (.invokevirtual 33, 5, 29, [2, 0, 0, 2, 5, 0, 0]) else none
    else
     if pc < 6 then
      if pc = 5 then some (.istore_n 2, 6, 2, []) else none
     else
      if pc = 6 then some (.aload_n 0, 7, 0, []) else none
  else
   if pc < 13 then
    if pc < 8 then
     if pc = 7 then some (.iload_n 1, 8, 1, []) else none
    else
     if pc < 11 then
      if pc = 8 then some (.invokevirtual 60, 11, 35, [2, 0, 0, 4, 5, 0, 0]) else none
     else
      if pc = 11 then some (.istore_n 3, 100012, 3, []) else none
   else
    if pc < 14 then
     if pc = 13 then some (.iload_n 2, 14, 2, []) else none
    else
     if pc < 17 then
      if pc = 14 then some (.if_icmp .le 22, 17, 36, []) else none
     else
      if pc = 17 then some (.aload_n 0, 18, 0, []) else none
 else
  if pc < 27 then
   if pc < 23 then
    if pc < 21 then
     if pc = 18 then some (.getfield 9, 21, 4, [0, 1, 5]) else none
    else
     if pc < 22 then
      if pc = 21 then some (.iload_n 3, 22, 3, []) else none
     else
      if pc = 22 then some (.iconst 1, 23, 0, []) else none
   else
    if pc < 24 then
     if pc = 23 then some (.isub, 24, 0, []) else none
    else
     if pc < 25 then
      if pc = 24 then some (.caload, 25, 0, []) else none
     else
      if pc = 25 then some (.bipush 47, 27, 0, []) else none
  else
   if pc < 36 then
    if pc < 30 then
     if pc = 27 then some (.if_icmp .eq 9, 30, 36, []) else none
    else
     if pc < 33 then
      if pc = 30 then some (.iinc 3 (-1), 33, 3, []) else none
     else
      if pc = 33 then some (.goto (-21), 36, 100012, []) else none
   else
    if pc < 37 then
     if pc = 36 then some (.iload_n 3, 37, 3, []) else none
    else
     if pc < 100012 then
      if pc = 37 then some (.ireturn, 38, 0, []) else none
     else
      if pc = 100012 then some (.iload_n 3, 13, 3, []) else none

def mc_X4_lastStep (pc : Nat) : Option mE :=
 if pc < 17 then
  if pc < 7 then
   if pc < 2 then
    if pc < 1 then
     if pc = 0 then some (.aload_n 0, 1, 0, []) else none
    else
     if pc = 1 then some (.iload_n 1, 2, 1, []) else none
   else
    if pc < 5 then
     if pc = 2 then some (.invokevirtual 63, 5, 36, [2, 0, 0, 4, 5, 0, 0]) else none
    else
     if pc < 6 then
      if pc = 5 then some (.istore_n 2, 6, 2, []) else none
     else
      if pc = 6 then some (.iconst 0, 7, 0, []) else none
  else
   if pc < 12 then
    if pc < 8 then
     if pc = 7 then some (.aload_n 0, 8, 0, []) else none
    else
     if pc < 9 then
      if pc = 8 then some (.iload_n 1, 9, 1, []) else none
     else
      if pc = 9 then some (.invokevirtual 60, 12, 35, [2, 0, 0, 4, 5, 0, 0]) else none
   else
    if pc < 13 then
     if pc = 12 then some (.iload_n 2, 13, 2, []) else none
    else
     if pc < 14 then
      if pc = 13 then some (.isub, 14, 0, []) else none
     else
      if pc = 14 then some (.invokestatic 66, 17, 1002, []) else none
 else
  if pc < 26 then
   if pc < 21 then
    if pc < 19 then
     if pc = 17 then some (.newarray .char, 19, 21, []) else none
    else
     if pc < 20 then
      if pc = 19 then some (.astore_n 3, 20, 3, []) else none
     else
      if pc = 20 then some (.aload_n 0, 21, 0, []) else none
   else
    if pc < 24 then
     if pc = 21 then some (.getfield 9, 24, 4, [0, 1, 5]) else none
    else
     if pc < 25 then
      if pc = 24 then some (.iload_n 2, 25, 2, []) else none
     else
      if pc = 25 then some (.aload_n 3, 26, 3, []) else none
  else
   if pc < 29 then
    if pc < 27 then
     if pc = 26 then some (.iconst 0, 27, 0, []) else none
    else
     if pc < 28 then
      if pc = 27 then some (.aload_n 3, 28, 3, []) else none
     else
      if pc = 28 then some (.arraylength, 29, 0, []) else none
   else
    if pc < 32 then
     if pc = 29 then some (.invokestatic 72, 32, 1001, []) else none
    else
     if pc < 33 then
      if pc = 32 then some (.aload_n 3, 33, 3, []) else none
     else
      if pc = 33 then some (.areturn, 34, 0, []) else none

def mc_X5_init (pc : Nat) : Option mE :=
 if pc < 28 then
  if pc < 14 then
   if pc < 6 then
    if pc < 4 then
     if pc < 1 then
      if pc = 0 then some (.aload_n 0, 1, 0, []) else none
     else
      if pc = 1 then some (.invokespecial 3, 4, 1000, []) else none
    else
     if pc < 5 then
      if pc = 4 then some (.aload_n 0, 5, 0, []) else none
     else
      if pc = 5 then some (.iload_n 1, 6, 1, []) else none
   else
    if pc < 10 then
     if pc < 9 then
      if pc = 6 then some (.putfield 9, 9, 5, [0, 0, 10]) else none
     else
      if pc = 9 then some (.aload_n 0, 10, 0, []) else none
    else
     if pc < 11 then
      if pc = 10 then some (.iload_n 2, 11, 2, []) else none
     else
      if pc = 11 then some (.putfield 15, 14, 5, [1, 0, 10]) else none
  else
   if pc < 20 then
    if pc < 16 then
     if pc < 15 then
      if pc = 14 then some (.aload_n 0, 15, 0, []) else none
     else
      if pc = 15 then some (.iload_n 3, 16, 3, []) else none
    else
     if pc < 19 then
      if pc = 16 then some (.putfield 18, 19, 5, [2, 0, 10]) else none
     else
      if pc = 19 then some (.aload_n 0, 20, 0, []) else none
   else
    if pc < 23 then
     if pc < 21 then
      if pc = 20 then some (.iconst 0, 21, 0, []) else none
     else
      if pc = 21 then some (.iload 4, 23, 4, []) else none
    else
     if pc < 26 then
      if pc = 23 then some (.invokestatic 21, 26, 1002, []) else none
     else
      if pc = 26 then some (.newarray .char, 28, 21, []) else none
 else
  if pc < 45 then
   if pc < 36 then
    if pc < 32 then
     if pc < 31 then
      if pc = 28 then some (.putfield 27, 31, 5, [3, 1, 10]) else none
     else
      if pc = 31 then some (.aload_n 0, 32, 0, []) else none
    else
     if pc < 33 then
      if pc = 32 then some (.iload_n 1, 33, 1, []) else none
     else
      if pc = 33 then some (.ifCond .ne 8, 36, 41, []) else none
   else
    if pc < 41 then
     if pc < 38 then
      if pc = 36 then some (.bipush 12, 38, 0, []) else none
     else
      if pc = 38 then some (.goto 4, 41, 42, []) else none
    else
     if pc < 42 then
      if pc = 41 then some (.iconst 0, 42, 0, []) else none
     else
      if pc = 42 then some (.anewarray 31, 45, 25, []) else none
  else
   if pc < 53 then
    if pc < 49 then
     if pc < 48 then
      if pc = 45 then some (.putfield 33, 48, 5, [4, 1, 10]) else none
     else
      if pc = 48 then some (.aload_n 0, 49, 0, []) else none
    else
     if pc < 50 then
      if pc = 49 then some (.iload_n 1, 50, 1, []) else none
     else
      if pc = 50 then some (.ifCond .ne 8, 53, 58, []) else none
   else
    if pc < 58 then
     if pc < 55 then
      if pc = 53 then some (.bipush 7, 55, 0, []) else none
     else
      if pc = 55 then some (.goto 4, 58, 59, []) else none
    else
     if pc < 59 then
      if pc = 58 then some (.iconst 0, 59, 0, []) else none
     else
      if pc < 62 then
       if pc = 59 then some (.putfield 37, 62, 5, [6, 0, 10]) else none
      else
       if pc = 62 then some (.return_, 63, 0, []) else none

def mc_X5_entry (pc : Nat) : Option mE :=
 if pc < 31 then
  if pc < 15 then
   if pc < 6 then
    if pc < 1 then
     if pc = 0 then some (.iconst 0, 1, 0, []) else none
    else
     if pc < 5 then
      if pc = 1 then some (.istore 4, 100003, 4, []) else none
     else
      if pc = 5 then some (.aload_n 0, 6, 0, []) else none
   else
    if pc < 12 then
     if pc < 9 then
      if pc = 6 then some (.getfield 40, 9, 5, [5, 0, 10]) else none
     else
      if pc = 9 then some (.if_icmp .ge 47, 12, 56, []) else none
    else
     if pc < 14 then
      if pc = 12 then some (.iload 4, 14, 4, []) else none
     else
      if pc = 14 then some (.aload_n 0, 15, 0, []) else none
  else
   if pc < 23 then
    if pc < 19 then
     if pc < 18 then
      if pc = 15 then some (.getfield 33, 18, 5, [4, 1, 10]) else none
     else
      if pc = 18 then some (.arraylength, 19, 0, []) else none
    else
     if pc < 22 then
      if pc = 19 then some (.if_icmp .ge 37, 22, 56, []) else none
     else
      if pc = 22 then some (.aload_n 0, 23, 0, []) else none
   else
    if pc < 28 then
     if pc < 26 then
      if pc = 23 then some (.getfield 33, 26, 5, [4, 1, 10]) else none
     else
      if pc = 26 then some (.iload 4, 28, 4, []) else none
    else
     if pc < 29 then
      if pc = 28 then some (.aaload, 29, 0, []) else none
     else
      if pc = 29 then some (.astore 5, 31, 5, []) else none
 else
  if pc < 44 then
   if pc < 38 then
    if pc < 33 then
     if pc = 31 then some (.aload 5, 33, 5, []) else none
    else
     if pc < 36 then
      if pc = 33 then some (.ifnull 17, 36, 50, []) else none
     else
      if pc = 36 then some (.aload 5, 38, 5, []) else none
   else
    if pc < 40 then
     if pc < 39 then
      if pc = 38 then some (.aload_n 1, 39, 1, []) else none
     else
      if pc = 39 then some (.iload_n 2, 40, 2, []) else none
    else
     if pc < 41 then
      if pc = 40 then some (.iload_n 3, 41, 3, []) else none
     else
      if pc = 41 then some (.invokevirtual 43, 44, 2, [4, 0, 0, 5, 1, 0, 0]) else none
  else
   if pc < 53 then
    if pc < 49 then
     if pc < 47 then
      if pc = 44 then some (.ifCond .ne 6, 47, 50, []) else none
     else
      if pc = 47 then some (.aload 5, 49, 5, []) else none
    else
     if pc < 50 then
      if pc = 49 then some (.areturn, 50, 0, []) else none
     else
      if pc = 50 then some (.iinc 4 1, 53, 4, []) else none
   else
    if pc < 57 then
     if pc < 56 then
      if pc = 53 then some (.goto (-50), 56, 100003, []) else none
     else
      if pc = 56 then some (.aconst_null, 57, 0, []) else none
    else
     if pc < 100003 then
      if pc = 57 then some (.areturn, 58, 0, []) else none
     else
      if pc = 100003 then some (.iload 4, 5, 4, []) else none

def mc_X5_insert (pc : Nat) : Option mE :=
 if pc < 47 then
  if pc < 27 then
   if pc < 13 then
    if pc < 5 then
     if pc < 1 then
      if pc = 0 then some (.aload_n 0, 1, 0, []) else none
     else
      if pc < 4 then
       if pc = 1 then some (.getfield 40, 4, 5, [5, 0, 10]) else none
      else
       if pc = 4 then some (.aload_n 0, 5, 0, []) else none
    else
     if pc < 9 then
      if pc < 8 then
       if pc = 5 then some (.getfield 33, 8, 5, [4, 1, 10]) else none
      else
       if pc = 8 then some (.arraylength, 9, 0, []) else none
     else
      if pc < 12 then
       if pc = 9 then some (.if_icmp .lt 4, 12, 13, []) else none
      else
       if pc = 12 then some (.return_, 13, 0, []) else none
   else
    if pc < 19 then
     if pc < 14 then
      if pc = 13 then some (.aload_n 0, 14, 0, []) else none
     else
      if pc < 17 then
       if pc = 14 then some (.getfield 40, 17, 5, [5, 0, 10]) else none
      else
       if pc = 17 then some (.istore_n 2, 100018, 2, []) else none
    else
     if pc < 23 then
      if pc < 22 then
       if pc = 19 then some (.ifCond .le 58, 22, 77, []) else none
      else
       if pc = 22 then some (.aload_n 0, 23, 0, []) else none
     else
      if pc < 26 then
       if pc = 23 then some (.getfield 33, 26, 5, [4, 1, 10]) else none
      else
       if pc = 26 then some (.iload_n 2, 27, 2, []) else none
  else
   if pc < 38 then
    if pc < 30 then
     if pc < 28 then
      if pc = 27 then some (.iconst 1, 28, 0, []) else none
     else
      if pc < 29 then
       if pc = 28 then some (.isub, 29, 0, []) else none
      else
       if pc = 29 then some (.aaload, 30, 0, []) else none
    else
     if pc < 34 then
      if pc < 33 then
       if pc = 30 then some (.ifnull 47, 33, 77, []) else none
      else
       if pc = 33 then some (.aload_n 0, 34, 0, []) else none
     else
      if pc < 37 then
       if pc = 34 then some (.getfield 33, 37, 5, [4, 1, 10]) else none
      else
       if pc = 37 then some (.iload_n 2, 38, 2, []) else none
   else
    if pc < 41 then
     if pc < 39 then
      if pc = 38 then some (.iconst 1, 39, 0, []) else none
     else
      if pc < 40 then
       if pc = 39 then some (.isub, 40, 0, []) else none
      else
       if pc = 40 then some (.aaload, 41, 0, []) else none
    else
     if pc < 45 then
      if pc < 42 then
       if pc = 41 then some (.aload_n 1, 42, 1, []) else none
      else
       if pc = 42 then some (.getfield 47, 45, 0, [0, 1, 2]) else none
     else
      if pc < 46 then
       if pc = 45 then some (.iconst 0, 46, 0, []) else none
      else
       if pc = 46 then some (.aload_n 1, 47, 1, []) else none
 else
  if pc < 71 then
   if pc < 62 then
    if pc < 54 then
     if pc < 50 then
      if pc = 47 then some (.getfield 47, 50, 0, [0, 1, 2]) else none
     else
      if pc < 51 then
       if pc = 50 then some (.arraylength, 51, 0, []) else none
      else
       if pc = 51 then some (.invokevirtual 43, 54, 2, [4, 0, 0, 5, 1, 0, 0]) else none
    else
     if pc < 58 then
      if pc < 57 then
       if pc = 54 then some (.ifCond .le 23, 57, 77, []) else none
      else
       if pc = 57 then some (.aload_n 0, 58, 0, []) else none
     else
      if pc < 61 then
       if pc = 58 then some (.getfield 33, 61, 5, [4, 1, 10]) else none
      else
       if pc = 61 then some (.iload_n 2, 62, 2, []) else none
   else
    if pc < 67 then
     if pc < 63 then
      if pc = 62 then some (.aload_n 0, 63, 0, []) else none
     else
      if pc < 66 then
       if pc = 63 then some (.getfield 33, 66, 5, [4, 1, 10]) else none
      else
       if pc = 66 then some (.iload_n 2, 67, 2, []) else none
    else
     if pc < 69 then
      if pc < 68 then
       if pc = 67 then some (.iconst 1, 68, 0, []) else none
      else
       if pc = 68 then some (.isub, 69, 0, []) else none
     else
      if pc < 70 then
       if pc = 69 then some (.aaload, 70, 0, []) else none
      else
       if pc = 70 then some (.aastore, 71, 0, []) else none
  else
   if pc < 84 then
    if pc < 78 then
     if pc < 74 then
      if pc = 71 then some (.iinc 2 (-1), 74, 2, []) else none
     else
      if pc < 77 then
       if pc = 74 then some (.goto (-56), 77, 100018, []) else none
      else
       if pc = 77 then some (.aload_n 0, 78, 0, []) else none
    else
     if pc < 82 then
      if pc < 81 then
       if pc = 78 then some (.getfield 33, 81, 5, [4, 1, 10]) else none
      else
       if pc = 81 then some (.iload_n 2, 82, 2, []) else none
     else
      if pc < 83 then
       if pc = 82 then some (.aload_n 1, 83, 1, []) else none
      else
       if pc = 83 then some (.aastore, 84, 0, []) else none
   else
    if pc < 90 then
     if pc < 86 then
      if pc < 85 then
       if pc = 84 then some (.aload_n 0, 85, 0, []) else none
      else
       if pc = 85 then some (.dup, 86, 0, []) else none
     else
      if pc < 89 then
       if pc = 86 then some (.getfield 40, 89, 5, [5, 0, 10]) else none
      else
       if pc = 89 then some (.iconst 1, 90, 0, []) else none
    else
     if pc < 94 then
      if pc < 91 then
       if pc = 90 then some (.iadd, 91, 0, []) else none
      else
       if pc = 91 then some (.putfield 40, 94, 5, [5, 0, 10]) else none
     else
      if pc < 100018 then
       if pc = 94 then some (.return_, 95, 0, []) else none
      else
       if pc = 100018 then some (.iload_n 2, 19, 2, []) else none

def mc_X5_remove (pc : Nat) : Option mE :=
 if pc < 41 then
  if pc < 21 then
   if pc < 9 then
    if pc < 3 then
     if pc < 1 then
      if pc = 0 then some (.iconst 0, 1, 0, []) else none
     else
      if pc < 2 then
       if pc = 1 then some (.istore_n 2, 2, 2, []) else none
      else
       if pc = 2 then some (.iconst 0, 3, 0, []) else none
    else
     if pc < 5 then
      if pc = 3 then some (.istore_n 3, 100004, 3, []) else none
     else
      if pc < 6 then
       if pc = 5 then some (.aload_n 0, 6, 0, []) else none
      else
       if pc = 6 then some (.getfield 40, 9, 5, [5, 0, 10]) else none
   else
    if pc < 14 then
     if pc < 12 then
      if pc = 9 then some (.if_icmp .ge 43, 12, 52, []) else none
     else
      if pc < 13 then
       if pc = 12 then some (.iload_n 3, 13, 3, []) else none
      else
       if pc = 13 then some (.aload_n 0, 14, 0, []) else none
    else
     if pc < 17 then
      if pc = 14 then some (.getfield 33, 17, 5, [4, 1, 10]) else none
     else
      if pc < 18 then
       if pc = 17 then some (.arraylength, 18, 0, []) else none
      else
       if pc = 18 then some (.if_icmp .ge 34, 21, 52, []) else none
  else
   if pc < 31 then
    if pc < 26 then
     if pc < 22 then
      if pc = 21 then some (.aload_n 0, 22, 0, []) else none
     else
      if pc < 25 then
       if pc = 22 then some (.getfield 33, 25, 5, [4, 1, 10]) else none
      else
       if pc = 25 then some (.iload_n 3, 26, 3, []) else none
    else
     if pc < 27 then
      if pc = 26 then some (.aaload, 27, 0, []) else none
     else
      if pc < 28 then
       if pc = 27 then some (.aload_n 1, 28, 1, []) else none
      else
       if pc = 28 then some (.if_acmp .eq 18, 31, 46, []) else none
   else
    if pc < 36 then
     if pc < 32 then
      if pc = 31 then some (.aload_n 0, 32, 0, []) else none
     else
      if pc < 35 then
       if pc = 32 then some (.getfield 33, 35, 5, [4, 1, 10]) else none
      else
       if pc = 35 then some (.iload_n 2, 36, 2, []) else none
    else
     if pc < 37 then
      if pc = 36 then some (.aload_n 0, 37, 0, []) else none
     else
      if pc < 40 then
       if pc = 37 then some (.getfield 33, 40, 5, [4, 1, 10]) else none
      else
       if pc = 40 then some (.iload_n 3, 41, 3, []) else none
 else
  if pc < 64 then
   if pc < 53 then
    if pc < 46 then
     if pc < 42 then
      if pc = 41 then some (.aaload, 42, 0, []) else none
     else
      if pc < 43 then
       if pc = 42 then some (.aastore, 43, 0, []) else none
      else
       if pc = 43 then some (.iinc 2 1, 46, 2, []) else none
    else
     if pc < 49 then
      if pc = 46 then some (.iinc 3 1, 49, 3, []) else none
     else
      if pc < 52 then
       if pc = 49 then some (.goto (-45), 52, 100004, []) else none
      else
       if pc = 52 then some (.iload_n 2, 53, 2, []) else none
   else
    if pc < 59 then
     if pc < 55 then
      if pc = 53 then some (.istore_n 3, 100054, 3, []) else none
     else
      if pc < 56 then
       if pc = 55 then some (.aload_n 0, 56, 0, []) else none
      else
       if pc = 56 then some (.getfield 33, 59, 5, [4, 1, 10]) else none
    else
     if pc < 60 then
      if pc = 59 then some (.arraylength, 60, 0, []) else none
     else
      if pc < 63 then
       if pc = 60 then some (.if_icmp .ge 16, 63, 76, []) else none
      else
       if pc = 63 then some (.aload_n 0, 64, 0, []) else none
  else
   if pc < 76 then
    if pc < 69 then
     if pc < 67 then
      if pc = 64 then some (.getfield 33, 67, 5, [4, 1, 10]) else none
     else
      if pc < 68 then
       if pc = 67 then some (.iload_n 3, 68, 3, []) else none
      else
       if pc = 68 then some (.aconst_null, 69, 0, []) else none
    else
     if pc < 70 then
      if pc = 69 then some (.aastore, 70, 0, []) else none
     else
      if pc < 73 then
       if pc = 70 then some (.iinc 3 1, 73, 3, []) else none
      else
       if pc = 73 then some (.goto (-19), 76, 100054, []) else none
   else
    if pc < 81 then
     if pc < 77 then
      if pc = 76 then some (.aload_n 0, 77, 0, []) else none
     else
      if pc < 78 then
       if pc = 77 then some (.iload_n 2, 78, 2, []) else none
      else
       if pc = 78 then some (.putfield 40, 81, 5, [5, 0, 10]) else none
    else
     if pc < 100004 then
      if pc = 81 then some (.return_, 82, 0, []) else none
     else
      if pc < 100054 then
       if pc = 100004 then some (.iload_n 3, 5, 3, []) else none
      else
       if pc = 100054 then some (.iload_n 3, 55, 3, []) else none

def mc_X6_init (pc : Nat) : Option mE :=
 if pc < 5 then
  if pc < 1 then
   if pc = 0 then some (.aload_n 0, 1, 0, []) else none
  else
   if pc < 4 then
    if pc = 1 then some (.invokespecial 3, 4, 1000, []) else none
   else
    if pc = 4 then some (.aload_n 0, 5, 0, []) else none
 else
  if pc < 10 then
   if pc < 8 then
    if pc = 5 then some (.sipush 1500, 8, 0, []) else none
   else
    if pc = 8 then some (.newarray .char, 10, 21, []) else none
  else
   if pc < 13 then
    if pc = 10 then some (.putfield 9, 13, 6, [0, 1, 3]) else none
   else
    if pc = 13 then some (.return_, 14, 0, []) else none

def mc_X6_writeLine (pc : Nat) : Option mE :=
 if pc < 36 then
  if pc < 17 then
   if pc < 7 then
    if pc < 4 then
     if pc < 1 then
      if pc = 0 then some (.iload_n 2, 1, 2, []) else none
     else
      if pc = 1 then some (.ifCond .lt 23, 4, 24, []) else none
    else
     if pc < 5 then
      if pc = 4 then some (.iload_n 2, 5, 2, []) else none
     else
      if pc < 6 then
       if pc = 5 then some (.aload_n 1, 6, 1, []) else none
      else
       if pc = 6 then some (.arraylength, 7, 0, []) else none
   else
    if pc < 14 then
     if pc < 10 then
      if pc = 7 then some (.if_icmp .gt 17, 10, 24, []) else none
     else
      if pc < 11 then
       if pc = 10 then some (.aload_n 0, 11, 0, []) else none
      else
       if pc = 11 then some (.getfield 15, 14, 6, [1, 0, 3]) else none
    else
     if pc < 15 then
      if pc = 14 then some (.iload_n 2, 15, 2, []) else none
     else
      if pc < 16 then
       if pc = 15 then some (.iadd, 16, 0, []) else none
      else
       if pc = 16 then some (.iconst 1, 17, 0, []) else none
  else
   if pc < 26 then
    if pc < 21 then
     if pc < 18 then
      if pc = 17 then some (.iadd, 18, 0, []) else none
     else
      if pc = 18 then some (.sipush 1500, 21, 0, []) else none
    else
     if pc < 24 then
      if pc = 21 then some (.if_icmp .le 5, 24, 26, []) else none
     else
      if pc < 25 then
       if pc = 24 then some (.iconst 0, 25, 0, []) else none
      else
       if pc = 25 then some (.ireturn, 26, 2, []) else none
   else
    if pc < 29 then
     if pc < 27 then
      if pc = 26 then some (.aload_n 1, 27, 1, []) else none
     else
      if pc < 28 then
       if pc = 27 then some (.iconst 0, 28, 0, []) else none
      else
       if pc = 28 then some (.aload_n 0, 29, 0, []) else none
    else
     if pc < 32 then
      if pc = 29 then some (.getfield 9, 32, 6, [0, 1, 3]) else none
     else
      if pc < 33 then
       if pc = 32 then some (.aload_n 0, 33, 0, []) else none
      else
       if pc = 33 then some (.getfield 15, 36, 6, [1, 0, 3]) else none
 else
  if pc < 55 then
   if pc < 45 then
    if pc < 40 then
     if pc < 37 then
      if pc = 36 then some (.iload_n 2, 37, 2, []) else none
     else
      if pc = 37 then some (.invokestatic 19, 40, 1001, []) else none
    else
     if pc < 41 then
      if pc = 40 then some (.aload_n 0, 41, 0, []) else none
     else
      if pc < 42 then
       if pc = 41 then some (.dup, 42, 0, []) else none
      else
       if pc = 42 then some (.getfield 15, 45, 6, [1, 0, 3]) else none
   else
    if pc < 50 then
     if pc < 46 then
      if pc = 45 then some (.iload_n 2, 46, 2, []) else none
     else
      if pc < 47 then
       if pc = 46 then some (.iadd, 47, 0, []) else none
      else
       if pc = 47 then some (.putfield 15, 50, 6, [1, 0, 3]) else none
    else
     if pc < 51 then
      if pc = 50 then some (.aload_n 0, 51, 0, []) else none
     else
      if pc < 54 then
       if pc = 51 then some (.getfield 9, 54, 6, [0, 1, 3]) else none
      else
       if pc = 54 then some (.aload_n 0, 55, 0, []) else none
  else
   if pc < 63 then
    if pc < 60 then
     if pc < 58 then
      if pc = 55 then some (.getfield 15, 58, 6, [1, 0, 3]) else none
     else
      if pc = 58 then some (.bipush 10, 60, 0, []) else none
    else
     if pc < 61 then
      if pc = 60 then some (.castore, 61, 0, []) else none
     else
      if pc < 62 then
       if pc = 61 then some (.aload_n 0, 62, 0, []) else none
      else
       if pc = 62 then some (.dup, 63, 0, []) else none
   else
    if pc < 68 then
     if pc < 66 then
      if pc = 63 then some (.getfield 15, 66, 6, [1, 0, 3]) else none
     else
      if pc < 67 then
       if pc = 66 then some (.iconst 1, 67, 0, []) else none
      else
       if pc = 67 then some (.iadd, 68, 0, []) else none
    else
     if pc < 71 then
      if pc = 68 then some (.putfield 15, 71, 6, [1, 0, 3]) else none
     else
      if pc < 72 then
       if pc = 71 then some (.iconst 1, 72, 0, []) else none
      else
       if pc = 72 then some (.ireturn, 73, 2, []) else none

def mc_X6_beginAtBack (pc : Nat) : Option mE :=
 if pc < 4 then
  if pc < 1 then
   if pc = 0 then some (.aload_n 0, 1, 0, []) else none
  else
   if pc = 1 then some (.sipush 1500, 4, 0, []) else none
 else
  if pc < 7 then
   if pc = 4 then some (.putfield 25, 7, 6, [2, 0, 3]) else none
  else
   if pc = 7 then some (.return_, 8, 0, []) else none

def mc_X6_putInFront (pc : Nat) : Option mE :=
 if pc < 30 then
  if pc < 13 then
   if pc < 6 then
    if pc < 4 then
     if pc < 1 then
      if pc = 0 then some (.aload_n 1, 1, 1, []) else none
     else
      if pc = 1 then some (.getfield 28, 4, 0, [0, 1, 2]) else none
    else
     if pc < 5 then
      if pc = 4 then some (.arraylength, 5, 0, []) else none
     else
      if pc = 5 then some (.istore_n 2, 6, 2, []) else none
   else
    if pc < 8 then
     if pc < 7 then
      if pc = 6 then some (.iload_n 2, 7, 2, []) else none
     else
      if pc = 7 then some (.iconst 1, 8, 0, []) else none
    else
     if pc < 9 then
      if pc = 8 then some (.iadd, 9, 0, []) else none
     else
      if pc < 10 then
       if pc = 9 then some (.aload_n 0, 10, 0, []) else none
      else
       if pc = 10 then some (.getfield 25, 13, 6, [2, 0, 3]) else none
  else
   if pc < 21 then
    if pc < 17 then
     if pc < 16 then
      if pc = 13 then some (.if_icmp .le 4, 16, 17, []) else none
     else
      if pc = 16 then some (.return_, 17, 0, []) else none
    else
     if pc < 18 then
      if pc = 17 then some (.aload_n 1, 18, 1, []) else none
     else
      if pc = 18 then some (.getfield 28, 21, 0, [0, 1, 2]) else none
   else
    if pc < 23 then
     if pc < 22 then
      if pc = 21 then some (.iconst 0, 22, 0, []) else none
     else
      if pc = 22 then some (.aload_n 0, 23, 0, []) else none
    else
     if pc < 26 then
      if pc = 23 then some (.getfield 9, 26, 6, [0, 1, 3]) else none
     else
      if pc < 27 then
       if pc = 26 then some (.aload_n 0, 27, 0, []) else none
      else
       if pc = 27 then some (.getfield 25, 30, 6, [2, 0, 3]) else none
 else
  if pc < 43 then
   if pc < 36 then
    if pc < 32 then
     if pc < 31 then
      if pc = 30 then some (.iload_n 2, 31, 2, []) else none
     else
      if pc = 31 then some (.isub, 32, 0, []) else none
    else
     if pc < 33 then
      if pc = 32 then some (.iload_n 2, 33, 2, []) else none
     else
      if pc = 33 then some (.invokestatic 19, 36, 1001, []) else none
   else
    if pc < 38 then
     if pc < 37 then
      if pc = 36 then some (.aload_n 0, 37, 0, []) else none
     else
      if pc = 37 then some (.dup, 38, 0, []) else none
    else
     if pc < 41 then
      if pc = 38 then some (.getfield 25, 41, 6, [2, 0, 3]) else none
     else
      if pc < 42 then
       if pc = 41 then some (.iload_n 2, 42, 2, []) else none
      else
       if pc = 42 then some (.iconst 1, 43, 0, []) else none
  else
   if pc < 52 then
    if pc < 45 then
     if pc < 44 then
      if pc = 43 then some (.iadd, 44, 0, []) else none
     else
      if pc = 44 then some (.isub, 45, 0, []) else none
    else
     if pc < 48 then
      if pc = 45 then some (.putfield 25, 48, 6, [2, 0, 3]) else none
     else
      if pc < 49 then
       if pc = 48 then some (.aload_n 0, 49, 0, []) else none
      else
       if pc = 49 then some (.getfield 9, 52, 6, [0, 1, 3]) else none
   else
    if pc < 56 then
     if pc < 53 then
      if pc = 52 then some (.aload_n 0, 53, 0, []) else none
     else
      if pc = 53 then some (.getfield 25, 56, 6, [2, 0, 3]) else none
    else
     if pc < 58 then
      if pc = 56 then some (.bipush 47, 58, 0, []) else none
     else
      if pc < 59 then
       if pc = 58 then some (.castore, 59, 0, []) else none
      else
       if pc = 59 then some (.return_, 60, 0, []) else none

def mc_X6_moveToFront (pc : Nat) : Option mE :=
 if pc < 32 then
  if pc < 17 then
   if pc < 7 then
    if pc < 1 then
     if pc = 0 then some (.aload_n 0, 1, 0, []) else none
    else
     if pc < 4 then
      if pc = 1 then some (.getfield 25, 4, 6, [2, 0, 3]) else none
     else
      if pc = 4 then some (.sipush 1500, 7, 0, []) else none
   else
    if pc < 11 then
     if pc < 10 then
      if pc = 7 then some (.if_icmp .lt 21, 10, 28, []) else none
     else
      if pc = 10 then some (.aload_n 0, 11, 0, []) else none
    else
     if pc < 14 then
      if pc = 11 then some (.sipush 1499, 14, 0, []) else none
     else
      if pc = 14 then some (.putfield 25, 17, 6, [2, 0, 3]) else none
  else
   if pc < 25 then
    if pc < 21 then
     if pc < 18 then
      if pc = 17 then some (.aload_n 0, 18, 0, []) else none
     else
      if pc = 18 then some (.getfield 9, 21, 6, [0, 1, 3]) else none
    else
     if pc < 22 then
      if pc = 21 then some (.aload_n 0, 22, 0, []) else none
     else
      if pc = 22 then some (.getfield 25, 25, 6, [2, 0, 3]) else none
   else
    if pc < 28 then
     if pc < 27 then
      if pc = 25 then some (.bipush 47, 27, 0, []) else none
     else
      if pc = 27 then some (.castore, 28, 0, []) else none
    else
     if pc < 29 then
      if pc = 28 then some (.aload_n 0, 29, 0, []) else none
     else
      if pc = 29 then some (.sipush 1500, 32, 0, []) else none
 else
  if pc < 45 then
   if pc < 37 then
    if pc < 33 then
     if pc = 32 then some (.aload_n 0, 33, 0, []) else none
    else
     if pc < 36 then
      if pc = 33 then some (.getfield 25, 36, 6, [2, 0, 3]) else none
     else
      if pc = 36 then some (.isub, 37, 0, []) else none
   else
    if pc < 41 then
     if pc < 40 then
      if pc = 37 then some (.putfield 15, 40, 6, [1, 0, 3]) else none
     else
      if pc = 40 then some (.aload_n 0, 41, 0, []) else none
    else
     if pc < 44 then
      if pc = 41 then some (.getfield 9, 44, 6, [0, 1, 3]) else none
     else
      if pc = 44 then some (.aload_n 0, 45, 0, []) else none
  else
   if pc < 53 then
    if pc < 49 then
     if pc < 48 then
      if pc = 45 then some (.getfield 25, 48, 6, [2, 0, 3]) else none
     else
      if pc = 48 then some (.aload_n 0, 49, 0, []) else none
    else
     if pc < 52 then
      if pc = 49 then some (.getfield 9, 52, 6, [0, 1, 3]) else none
     else
      if pc = 52 then some (.iconst 0, 53, 0, []) else none
   else
    if pc < 57 then
     if pc < 54 then
      if pc = 53 then some (.aload_n 0, 54, 0, []) else none
     else
      if pc = 54 then some (.getfield 15, 57, 6, [1, 0, 3]) else none
    else
     if pc < 60 then
      if pc = 57 then some (.invokestatic 19, 60, 1001, []) else none
     else
      if pc = 60 then some (.return_, 61, 0, []) else none

def mc_X7_init (pc : Nat) : Option mE :=
 if pc < 27 then
  if pc < 17 then
   if pc < 7 then
    if pc < 4 then
     if pc < 1 then
      if pc = 0 then some (.aload_n 0, 1, 0, []) else none
     else
      if pc = 1 then some (.invokespecial 3, 4, 1000, []) else none
    else
     if pc < 5 then
      if pc = 4 then some (.aload_n 0, 5, 0, []) else none
     else
      if pc = 5 then some (.bipush 48, 7, 0, []) else none
   else
    if pc < 13 then
     if pc < 10 then
      if pc = 7 then some (.anewarray 9, 10, 24, []) else none
     else
      if pc = 10 then some (.putfield 11, 13, 7, [0, 1, 3]) else none
    else
     if pc < 16 then
      if pc = 13 then some (.new 9, 16, 5, [10]) else none
     else
      if pc = 16 then some (.dup, 17, 0, []) else none
  else
   if pc < 21 then
    if pc < 19 then
     if pc < 18 then
      if pc = 17 then some (.iconst 0, 18, 0, []) else none
     else
      if pc = 18 then some (.iconst 0, 19, 0, []) else none
    else
     if pc < 20 then
      if pc = 19 then some (.iconst 0, 20, 0, []) else none
     else
      if pc = 20 then some (.iconst 0, 21, 0, []) else none
   else
    if pc < 25 then
     if pc < 24 then
      if pc = 21 then some (.invokespecial 17, 24, 38, [5, 2, 112, 5, 6]) else none
     else
      if pc = 24 then some (.astore_n 1, 25, 1, []) else none
    else
     if pc < 26 then
      if pc = 25 then some (.aload_n 1, 26, 1, []) else none
     else
      if pc = 26 then some (.iconst 1, 27, 0, []) else none
 else
  if pc < 41 then
   if pc < 35 then
    if pc < 31 then
     if pc < 30 then
      if pc = 27 then some (.putfield 20, 30, 5, [7, 0, 10]) else none
     else
      if pc = 30 then some (.aload_n 1, 31, 1, []) else none
    else
     if pc < 32 then
      if pc = 31 then some (.iconst 0, 32, 0, []) else none
     else
      if pc = 32 then some (.putfield 24, 35, 5, [8, 0, 10]) else none
   else
    if pc < 39 then
     if pc < 36 then
      if pc = 35 then some (.aload_n 0, 36, 0, []) else none
     else
      if pc = 36 then some (.getfield 11, 39, 7, [0, 1, 3]) else none
    else
     if pc < 40 then
      if pc = 39 then some (.iconst 0, 40, 0, []) else none
     else
      if pc = 40 then some (.aload_n 1, 41, 1, []) else none
  else
   if pc < 47 then
    if pc < 43 then
     if pc < 42 then
      if pc = 41 then some (.aastore, 42, 0, []) else none
     else
      if pc = 42 then some (.aload_n 0, 43, 0, []) else none
    else
     if pc < 44 then
      if pc = 43 then some (.iconst 1, 44, 0, []) else none
     else
      if pc = 44 then some (.putfield 27, 47, 7, [1, 0, 3]) else none
   else
    if pc < 49 then
     if pc < 48 then
      if pc = 47 then some (.aload_n 0, 48, 0, []) else none
     else
      if pc = 48 then some (.iconst 0, 49, 0, []) else none
    else
     if pc < 52 then
      if pc = 49 then some (.putfield 30, 52, 7, [2, 0, 3]) else none
     else
      if pc = 52 then some (.return_, 53, 0, []) else none

def mc_X7_at (pc : Nat) : Option mE :=
 if pc < 11 then
  if pc < 5 then
   if pc < 1 then
    if pc = 0 then some (.iload_n 1, 1, 1, []) else none
   else
    if pc < 4 then
     if pc = 1 then some (.ifCond .lt 18, 4, 19, []) else none
    else
     if pc = 4 then some (.iload_n 1, 5, 1, []) else none
  else
   if pc < 7 then
    if pc = 5 then some (.bipush 48, 7, 0, []) else none
   else
    if pc < 10 then
     if pc = 7 then some (.if_icmp .ge 12, 10, 19, []) else none
    else
     if pc = 10 then some (.aload_n 0, 11, 0, []) else none
 else
  if pc < 16 then
   if pc < 14 then
    if pc = 11 then some (.getfield 11, 14, 7, [0, 1, 3]) else none
   else
    if pc < 15 then
     if pc = 14 then some (.iload_n 1, 15, 1, []) else none
    else
     if pc = 15 then some (.aaload, 16, 0, []) else none
  else
   if pc < 19 then
    if pc = 16 then some (.goto 4, 19, 20, []) else none
   else
    if pc < 20 then
     if pc = 19 then some (.aconst_null, 20, 0, []) else none
    else
     if pc = 20 then some (.areturn, 21, 0, []) else none

def mc_X7_isDirectory (pc : Nat) : Option mE :=
 if pc < 10 then
  if pc < 5 then
   if pc < 1 then
    if pc = 0 then some (.aload_n 0, 1, 0, []) else none
   else
    if pc < 2 then
     if pc = 1 then some (.iload_n 1, 2, 1, []) else none
    else
     if pc = 2 then some (.invokevirtual 33, 5, 48, [2, 0, 0, 2, 8, 0, 0]) else none
  else
   if pc < 6 then
    if pc = 5 then some (.astore_n 2, 6, 2, []) else none
   else
    if pc < 7 then
     if pc = 6 then some (.aload_n 2, 7, 2, []) else none
    else
     if pc = 7 then some (.ifnull 14, 10, 21, []) else none
 else
  if pc < 17 then
   if pc < 11 then
    if pc = 10 then some (.aload_n 2, 11, 2, []) else none
   else
    if pc < 14 then
     if pc = 11 then some (.getfield 37, 14, 5, [0, 0, 10]) else none
    else
     if pc = 14 then some (.ifCond .ne 7, 17, 21, []) else none
  else
   if pc < 21 then
    if pc < 18 then
     if pc = 17 then some (.iconst 1, 18, 0, []) else none
    else
     if pc = 18 then some (.goto 4, 21, 22, []) else none
   else
    if pc < 22 then
     if pc = 21 then some (.iconst 0, 22, 0, []) else none
    else
     if pc = 22 then some (.ireturn, 23, 2, []) else none

def mc_X7_add (pc : Nat) : Option mE :=
 if pc < 23 then
  if pc < 12 then
   if pc < 5 then
    if pc < 1 then
     if pc = 0 then some (.iconst 0, 1, 0, []) else none
    else
     if pc < 3 then
      if pc = 1 then some (.istore_n 2, 100002, 2, []) else none
     else
      if pc = 3 then some (.bipush 48, 5, 0, []) else none
   else
    if pc < 8 then
     if pc = 5 then some (.if_icmp .ge 37, 8, 42, []) else none
    else
     if pc < 9 then
      if pc = 8 then some (.aload_n 0, 9, 0, []) else none
     else
      if pc = 9 then some (.getfield 11, 12, 7, [0, 1, 3]) else none
  else
   if pc < 17 then
    if pc < 13 then
     if pc = 12 then some (.iload_n 2, 13, 2, []) else none
    else
     if pc < 14 then
      if pc = 13 then some (.aaload, 14, 0, []) else none
     else
      if pc = 14 then some (.ifnonnull 22, 17, 36, []) else none
   else
    if pc < 21 then
     if pc < 18 then
      if pc = 17 then some (.aload_n 0, 18, 0, []) else none
     else
      if pc = 18 then some (.getfield 11, 21, 7, [0, 1, 3]) else none
    else
     if pc < 22 then
      if pc = 21 then some (.iload_n 2, 22, 2, []) else none
     else
      if pc = 22 then some (.aload_n 1, 23, 1, []) else none
 else
  if pc < 34 then
   if pc < 26 then
    if pc < 24 then
     if pc = 23 then some (.aastore, 24, 0, []) else none
    else
     if pc < 25 then
      if pc = 24 then some (.aload_n 0, 25, 0, []) else none
     else
      if pc = 25 then some (.dup, 26, 0, []) else none
   else
    if pc < 30 then
     if pc < 29 then
      if pc = 26 then some (.getfield 27, 29, 7, [1, 0, 3]) else none
     else
      if pc = 29 then some (.iconst 1, 30, 0, []) else none
    else
     if pc < 31 then
      if pc = 30 then some (.iadd, 31, 0, []) else none
     else
      if pc = 31 then some (.putfield 27, 34, 7, [1, 0, 3]) else none
  else
   if pc < 39 then
    if pc < 35 then
     if pc = 34 then some (.iload_n 2, 35, 2, []) else none
    else
     if pc < 36 then
      if pc = 35 then some (.ireturn, 36, 0, []) else none
     else
      if pc = 36 then some (.iinc 2 1, 39, 2, []) else none
   else
    if pc < 43 then
     if pc < 42 then
      if pc = 39 then some (.goto (-37), 42, 100002, []) else none
     else
      if pc = 42 then some (.iconst (-1), 43, 0, []) else none
    else
     if pc < 100002 then
      if pc = 43 then some (.ireturn, 44, 0, []) else none
     else
      if pc = 100002 then some (.iload_n 2, 3, 2, []) else none

def mc_X7_join (pc : Nat) : Option mE :=
 if pc < 31 then
  if pc < 14 then
   if pc < 7 then
    if pc < 2 then
     if pc < 1 then
      if pc = 0 then some (.aload_n 0, 1, 0, []) else none
     else
      if pc = 1 then some (.iload_n 1, 2, 1, []) else none
    else
     if pc < 5 then
      if pc = 2 then some (.invokevirtual 33, 5, 48, [2, 0, 0, 2, 8, 0, 0]) else none
     else
      if pc = 5 then some (.astore 4, 7, 4, []) else none
   else
    if pc < 9 then
     if pc < 8 then
      if pc = 7 then some (.aload_n 0, 8, 0, []) else none
     else
      if pc = 8 then some (.iload_n 3, 9, 3, []) else none
    else
     if pc < 12 then
      if pc = 9 then some (.invokevirtual 33, 12, 48, [2, 0, 0, 2, 8, 0, 0]) else none
     else
      if pc = 12 then some (.astore 5, 14, 5, []) else none
  else
   if pc < 24 then
    if pc < 19 then
     if pc < 16 then
      if pc = 14 then some (.aload 4, 16, 4, []) else none
     else
      if pc = 16 then some (.ifnull 8, 19, 24, []) else none
    else
     if pc < 21 then
      if pc = 19 then some (.aload 5, 21, 5, []) else none
     else
      if pc = 21 then some (.ifnonnull 4, 24, 25, []) else none
   else
    if pc < 28 then
     if pc < 25 then
      if pc = 24 then some (.return_, 25, 0, []) else none
     else
      if pc = 25 then some (.new 40, 28, 0, [2]) else none
    else
     if pc < 29 then
      if pc = 28 then some (.dup, 29, 0, []) else none
     else
      if pc < 30 then
       if pc = 29 then some (.aload_n 2, 30, 2, []) else none
      else
       if pc = 30 then some (.iload_n 3, 31, 3, []) else none
 else
  if pc < 50 then
   if pc < 40 then
    if pc < 36 then
     if pc < 34 then
      if pc = 31 then some (.invokespecial 42, 34, 0, [3, 0, 0, 3, 1]) else none
     else
      if pc = 34 then some (.astore 6, 36, 6, []) else none
    else
     if pc < 38 then
      if pc = 36 then some (.aload 4, 38, 4, []) else none
     else
      if pc = 38 then some (.aload 6, 40, 6, []) else none
   else
    if pc < 45 then
     if pc < 43 then
      if pc = 40 then some (.invokevirtual 45, 43, 40, [2, 0, 0, 3, 6, 0, 0]) else none
     else
      if pc = 43 then some (.aload 5, 45, 5, []) else none
    else
     if pc < 46 then
      if pc = 45 then some (.dup, 46, 0, []) else none
     else
      if pc < 49 then
       if pc = 46 then some (.getfield 20, 49, 5, [7, 0, 10]) else none
      else
       if pc = 49 then some (.iconst 1, 50, 0, []) else none
  else
   if pc < 57 then
    if pc < 54 then
     if pc < 51 then
      if pc = 50 then some (.iadd, 51, 0, []) else none
     else
      if pc = 51 then some (.putfield 20, 54, 5, [7, 0, 10]) else none
    else
     if pc < 56 then
      if pc = 54 then some (.aload 5, 56, 5, []) else none
     else
      if pc = 56 then some (.iload_n 1, 57, 1, []) else none
   else
    if pc < 62 then
     if pc < 60 then
      if pc = 57 then some (.putfield 24, 60, 5, [8, 0, 10]) else none
     else
      if pc = 60 then some (.aload 5, 62, 5, []) else none
    else
     if pc < 64 then
      if pc = 62 then some (.aload 6, 64, 6, []) else none
     else
      if pc < 67 then
       if pc = 64 then some (.putfield 49, 67, 5, [9, 1, 10]) else none
      else
       if pc = 67 then some (.return_, 68, 0, []) else none

def mc_X7_part (pc : Nat) : Option mE :=
 if pc < 34 then
  if pc < 16 then
   if pc < 6 then
    if pc < 2 then
     if pc < 1 then
      if pc = 0 then some (.aload_n 0, 1, 0, []) else none
     else
      if pc = 1 then some (.iload_n 1, 2, 1, []) else none
    else
     if pc < 5 then
      if pc = 2 then some (.invokevirtual 33, 5, 48, [2, 0, 0, 2, 8, 0, 0]) else none
     else
      if pc = 5 then some (.astore_n 3, 6, 3, []) else none
   else
    if pc < 8 then
     if pc < 7 then
      if pc = 6 then some (.aload_n 0, 7, 0, []) else none
     else
      if pc = 7 then some (.aload_n 2, 8, 2, []) else none
    else
     if pc < 11 then
      if pc = 8 then some (.getfield 53, 11, 0, [1, 0, 2]) else none
     else
      if pc < 14 then
       if pc = 11 then some (.invokevirtual 33, 14, 48, [2, 0, 0, 2, 8, 0, 0]) else none
      else
       if pc = 14 then some (.astore 4, 16, 4, []) else none
  else
   if pc < 26 then
    if pc < 20 then
     if pc < 17 then
      if pc = 16 then some (.aload_n 3, 17, 3, []) else none
     else
      if pc = 17 then some (.ifnull 8, 20, 25, []) else none
    else
     if pc < 22 then
      if pc = 20 then some (.aload 4, 22, 4, []) else none
     else
      if pc < 25 then
       if pc = 22 then some (.ifnonnull 4, 25, 26, []) else none
      else
       if pc = 25 then some (.return_, 26, 0, []) else none
   else
    if pc < 28 then
     if pc < 27 then
      if pc = 26 then some (.aload_n 3, 27, 3, []) else none
     else
      if pc = 27 then some (.aload_n 2, 28, 2, []) else none
    else
     if pc < 31 then
      if pc = 28 then some (.invokevirtual 56, 31, 41, [2, 0, 0, 4, 6, 0, 0]) else none
     else
      if pc < 33 then
       if pc = 31 then some (.aload 4, 33, 4, []) else none
      else
       if pc = 33 then some (.dup, 34, 0, []) else none
 else
  if pc < 55 then
   if pc < 44 then
    if pc < 38 then
     if pc < 37 then
      if pc = 34 then some (.getfield 20, 37, 5, [7, 0, 10]) else none
     else
      if pc = 37 then some (.iconst 1, 38, 0, []) else none
    else
     if pc < 39 then
      if pc = 38 then some (.isub, 39, 0, []) else none
     else
      if pc < 42 then
       if pc = 39 then some (.putfield 20, 42, 5, [7, 0, 10]) else none
      else
       if pc = 42 then some (.aload 4, 44, 4, []) else none
   else
    if pc < 50 then
     if pc < 47 then
      if pc = 44 then some (.getfield 20, 47, 5, [7, 0, 10]) else none
     else
      if pc = 47 then some (.ifCond .ne 23, 50, 70, []) else none
    else
     if pc < 51 then
      if pc = 50 then some (.aload_n 0, 51, 0, []) else none
     else
      if pc < 54 then
       if pc = 51 then some (.getfield 11, 54, 7, [0, 1, 3]) else none
      else
       if pc = 54 then some (.aload_n 2, 55, 2, []) else none
  else
   if pc < 62 then
    if pc < 59 then
     if pc < 58 then
      if pc = 55 then some (.getfield 53, 58, 0, [1, 0, 2]) else none
     else
      if pc = 58 then some (.aconst_null, 59, 0, []) else none
    else
     if pc < 60 then
      if pc = 59 then some (.aastore, 60, 0, []) else none
     else
      if pc < 61 then
       if pc = 60 then some (.aload_n 0, 61, 0, []) else none
      else
       if pc = 61 then some (.dup, 62, 0, []) else none
   else
    if pc < 66 then
     if pc < 65 then
      if pc = 62 then some (.getfield 27, 65, 7, [1, 0, 3]) else none
     else
      if pc = 65 then some (.iconst 1, 66, 0, []) else none
    else
     if pc < 67 then
      if pc = 66 then some (.isub, 67, 0, []) else none
     else
      if pc < 70 then
       if pc = 67 then some (.putfield 27, 70, 7, [1, 0, 3]) else none
      else
       if pc = 70 then some (.return_, 71, 0, []) else none

def mc_X8_init (pc : Nat) : Option mE :=
 if pc < 17 then
  if pc < 7 then
   if pc < 4 then
    if pc < 1 then
     if pc = 0 then some (.aload_n 0, 1, 0, []) else none
    else
     if pc = 1 then some (.invokespecial 3, 4, 1000, []) else none
   else
    if pc < 5 then
     if pc = 4 then some (.aload_n 0, 5, 0, []) else none
    else
     if pc = 5 then some (.bipush 51, 7, 0, []) else none
  else
   if pc < 12 then
    if pc < 9 then
     if pc = 7 then some (.newarray .boolean, 9, 22, []) else none
    else
     if pc = 9 then some (.putfield 9, 12, 8, [0, 1, 5]) else none
   else
    if pc < 13 then
     if pc = 12 then some (.aload_n 0, 13, 0, []) else none
    else
     if pc < 15 then
      if pc = 13 then some (.bipush 51, 15, 0, []) else none
     else
      if pc = 15 then some (.newarray .boolean, 17, 22, []) else none
 else
  if pc < 28 then
   if pc < 21 then
    if pc < 20 then
     if pc = 17 then some (.putfield 15, 20, 8, [1, 1, 5]) else none
    else
     if pc = 20 then some (.aload_n 0, 21, 0, []) else none
   else
    if pc < 23 then
     if pc = 21 then some (.bipush 51, 23, 0, []) else none
    else
     if pc < 25 then
      if pc = 23 then some (.newarray .boolean, 25, 22, []) else none
     else
      if pc = 25 then some (.putfield 18, 28, 8, [2, 1, 5]) else none
  else
   if pc < 31 then
    if pc < 29 then
     if pc = 28 then some (.aload_n 0, 29, 0, []) else none
    else
     if pc = 29 then some (.bipush 51, 31, 0, []) else none
   else
    if pc < 33 then
     if pc = 31 then some (.newarray .boolean, 33, 22, []) else none
    else
     if pc < 36 then
      if pc = 33 then some (.putfield 21, 36, 8, [3, 1, 5]) else none
     else
      if pc = 36 then some (.return_, 37, 0, []) else none

def mc_X8_begin (pc : Nat) : Option mE :=
 if pc < 5 then
  if pc < 1 then
   if pc = 0 then some (.aload_n 0, 1, 0, []) else none
  else
   if pc < 2 then
    if pc = 1 then some (.iconst 0, 2, 0, []) else none
   else
    if pc = 2 then some (.putfield 24, 5, 8, [4, 0, 5]) else none
 else
  if pc < 7 then
   if pc < 6 then
    if pc = 5 then some (.aload_n 0, 6, 0, []) else none
   else
    if pc = 6 then some (.iconst 1, 7, 0, []) else none
  else
   if pc < 10 then
    if pc = 7 then some (.invokevirtual 28, 10, 55, [2, 0, 0, 2, 9, 0, 0]) else none
   else
    if pc = 10 then some (.return_, 11, 0, []) else none

def mc_X8_clearLevel (pc : Nat) : Option mE :=
 if pc < 20 then
  if pc < 10 then
   if pc < 5 then
    if pc < 1 then
     if pc = 0 then some (.aload_n 0, 1, 0, []) else none
    else
     if pc < 4 then
      if pc = 1 then some (.getfield 9, 4, 8, [0, 1, 5]) else none
     else
      if pc = 4 then some (.aload_n 0, 5, 0, []) else none
   else
    if pc < 8 then
     if pc = 5 then some (.getfield 24, 8, 8, [4, 0, 5]) else none
    else
     if pc < 9 then
      if pc = 8 then some (.iload_n 1, 9, 1, []) else none
     else
      if pc = 9 then some (.bastore, 10, 0, []) else none
  else
   if pc < 15 then
    if pc < 11 then
     if pc = 10 then some (.aload_n 0, 11, 0, []) else none
    else
     if pc < 14 then
      if pc = 11 then some (.getfield 15, 14, 8, [1, 1, 5]) else none
     else
      if pc = 14 then some (.aload_n 0, 15, 0, []) else none
   else
    if pc < 18 then
     if pc = 15 then some (.getfield 24, 18, 8, [4, 0, 5]) else none
    else
     if pc < 19 then
      if pc = 18 then some (.iconst 0, 19, 0, []) else none
     else
      if pc = 19 then some (.bastore, 20, 0, []) else none
 else
  if pc < 30 then
   if pc < 25 then
    if pc < 21 then
     if pc = 20 then some (.aload_n 0, 21, 0, []) else none
    else
     if pc < 24 then
      if pc = 21 then some (.getfield 18, 24, 8, [2, 1, 5]) else none
     else
      if pc = 24 then some (.aload_n 0, 25, 0, []) else none
   else
    if pc < 28 then
     if pc = 25 then some (.getfield 24, 28, 8, [4, 0, 5]) else none
    else
     if pc < 29 then
      if pc = 28 then some (.iconst 1, 29, 0, []) else none
     else
      if pc = 29 then some (.bastore, 30, 0, []) else none
  else
   if pc < 35 then
    if pc < 31 then
     if pc = 30 then some (.aload_n 0, 31, 0, []) else none
    else
     if pc < 34 then
      if pc = 31 then some (.getfield 21, 34, 8, [3, 1, 5]) else none
     else
      if pc = 34 then some (.aload_n 0, 35, 0, []) else none
   else
    if pc < 39 then
     if pc < 38 then
      if pc = 35 then some (.getfield 24, 38, 8, [4, 0, 5]) else none
     else
      if pc = 38 then some (.iconst 0, 39, 0, []) else none
    else
     if pc < 40 then
      if pc = 39 then some (.bastore, 40, 0, []) else none
     else
      if pc = 40 then some (.return_, 41, 0, []) else none

def mc_X8_isOpen (pc : Nat) : Option mE :=
 if pc < 21 then
  if pc < 9 then
   if pc < 4 then
    if pc < 1 then
     if pc = 0 then some (.aload_n 0, 1, 0, []) else none
    else
     if pc = 1 then some (.getfield 9, 4, 8, [0, 1, 5]) else none
   else
    if pc < 5 then
     if pc = 4 then some (.aload_n 0, 5, 0, []) else none
    else
     if pc < 8 then
      if pc = 5 then some (.getfield 24, 8, 8, [4, 0, 5]) else none
     else
      if pc = 8 then some (.baload, 9, 0, []) else none
  else
   if pc < 16 then
    if pc < 12 then
     if pc = 9 then some (.ifCond .eq 31, 12, 40, []) else none
    else
     if pc < 13 then
      if pc = 12 then some (.aload_n 0, 13, 0, []) else none
     else
      if pc = 13 then some (.getfield 18, 16, 8, [2, 1, 5]) else none
   else
    if pc < 17 then
     if pc = 16 then some (.aload_n 0, 17, 0, []) else none
    else
     if pc < 20 then
      if pc = 17 then some (.getfield 24, 20, 8, [4, 0, 5]) else none
     else
      if pc = 20 then some (.baload, 21, 0, []) else none
 else
  if pc < 32 then
   if pc < 25 then
    if pc < 24 then
     if pc = 21 then some (.ifCond .eq 19, 24, 40, []) else none
    else
     if pc = 24 then some (.aload_n 0, 25, 0, []) else none
   else
    if pc < 28 then
     if pc = 25 then some (.getfield 15, 28, 8, [1, 1, 5]) else none
    else
     if pc < 29 then
      if pc = 28 then some (.aload_n 0, 29, 0, []) else none
     else
      if pc = 29 then some (.getfield 24, 32, 8, [4, 0, 5]) else none
  else
   if pc < 37 then
    if pc < 33 then
     if pc = 32 then some (.baload, 33, 0, []) else none
    else
     if pc < 36 then
      if pc = 33 then some (.ifCond .ne 7, 36, 40, []) else none
     else
      if pc = 36 then some (.iconst 1, 37, 0, []) else none
   else
    if pc < 40 then
     if pc = 37 then some (.goto 4, 40, 41, []) else none
    else
     if pc < 41 then
      if pc = 40 then some (.iconst 0, 41, 0, []) else none
     else
      if pc = 41 then some (.ireturn, 42, 2, []) else none

def mc_X8_value (pc : Nat) : Option mE :=
 if pc < 16 then
  if pc < 8 then
   if pc < 4 then
    if pc < 1 then
     if pc = 0 then some (.aload_n 0, 1, 0, []) else none
    else
     if pc = 1 then some (.getfield 15, 4, 8, [1, 1, 5]) else none
   else
    if pc < 5 then
     if pc = 4 then some (.aload_n 0, 5, 0, []) else none
    else
     if pc = 5 then some (.getfield 24, 8, 8, [4, 0, 5]) else none
  else
   if pc < 12 then
    if pc < 9 then
     if pc = 8 then some (.baload, 9, 0, []) else none
    else
     if pc = 9 then some (.ifCond .ne 15, 12, 24, []) else none
   else
    if pc < 13 then
     if pc = 12 then some (.aload_n 0, 13, 0, []) else none
    else
     if pc = 13 then some (.getfield 18, 16, 8, [2, 1, 5]) else none
 else
  if pc < 24 then
   if pc < 20 then
    if pc < 17 then
     if pc = 16 then some (.aload_n 0, 17, 0, []) else none
    else
     if pc = 17 then some (.getfield 24, 20, 8, [4, 0, 5]) else none
   else
    if pc < 21 then
     if pc = 20 then some (.baload, 21, 0, []) else none
    else
     if pc = 21 then some (.ifCond .eq 7, 24, 28, []) else none
  else
   if pc < 28 then
    if pc < 25 then
     if pc = 24 then some (.iconst 1, 25, 0, []) else none
    else
     if pc = 25 then some (.goto 4, 28, 29, []) else none
   else
    if pc < 29 then
     if pc = 28 then some (.iconst 0, 29, 0, []) else none
    else
     if pc = 29 then some (.ireturn, 30, 2, []) else none

def mc_X8_join (pc : Nat) : Option mE :=
 if pc < 24 then
  if pc < 12 then
   if pc < 7 then
    if pc < 1 then
     if pc = 0 then some (.aload_n 0, 1, 0, []) else none
    else
     if pc < 4 then
      if pc = 1 then some (.invokevirtual 32, 4, 56, [1, 0, 0, 1, 9, 0, 0]) else none
     else
      if pc = 4 then some (.ifCond .eq 30, 7, 34, []) else none
   else
    if pc < 8 then
     if pc = 7 then some (.aload_n 0, 8, 0, []) else none
    else
     if pc < 11 then
      if pc = 8 then some (.getfield 18, 11, 8, [2, 1, 5]) else none
     else
      if pc = 11 then some (.aload_n 0, 12, 0, []) else none
  else
   if pc < 17 then
    if pc < 15 then
     if pc = 12 then some (.getfield 24, 15, 8, [4, 0, 5]) else none
    else
     if pc < 16 then
      if pc = 15 then some (.iload_n 1, 16, 1, []) else none
     else
      if pc = 16 then some (.aload_n 0, 17, 0, []) else none
   else
    if pc < 20 then
     if pc = 17 then some (.getfield 21, 20, 8, [3, 1, 5]) else none
    else
     if pc < 21 then
      if pc = 20 then some (.aload_n 0, 21, 0, []) else none
     else
      if pc = 21 then some (.getfield 24, 24, 8, [4, 0, 5]) else none
 else
  if pc < 34 then
   if pc < 29 then
    if pc < 25 then
     if pc = 24 then some (.baload, 25, 0, []) else none
    else
     if pc < 28 then
      if pc = 25 then some (.if_icmp .eq 7, 28, 32, []) else none
     else
      if pc = 28 then some (.iconst 1, 29, 0, []) else none
   else
    if pc < 32 then
     if pc = 29 then some (.goto 4, 32, 33, []) else none
    else
     if pc < 33 then
      if pc = 32 then some (.iconst 0, 33, 0, []) else none
     else
      if pc = 33 then some (.bastore, 34, 0, []) else none
  else
   if pc < 39 then
    if pc < 35 then
     if pc = 34 then some (.aload_n 0, 35, 0, []) else none
    else
     if pc < 38 then
      if pc = 35 then some (.getfield 21, 38, 8, [3, 1, 5]) else none
     else
      if pc = 38 then some (.aload_n 0, 39, 0, []) else none
   else
    if pc < 43 then
     if pc < 42 then
      if pc = 39 then some (.getfield 24, 42, 8, [4, 0, 5]) else none
     else
      if pc = 42 then some (.iconst 0, 43, 0, []) else none
    else
     if pc < 44 then
      if pc = 43 then some (.bastore, 44, 0, []) else none
     else
      if pc = 44 then some (.return_, 45, 0, []) else none

def mc_X8_turn (pc : Nat) : Option mE :=
 if pc < 13 then
  if pc < 5 then
   if pc < 1 then
    if pc = 0 then some (.aload_n 0, 1, 0, []) else none
   else
    if pc < 4 then
     if pc = 1 then some (.getfield 21, 4, 8, [3, 1, 5]) else none
    else
     if pc = 4 then some (.aload_n 0, 5, 0, []) else none
  else
   if pc < 9 then
    if pc < 8 then
     if pc = 5 then some (.getfield 24, 8, 8, [4, 0, 5]) else none
    else
     if pc = 8 then some (.aload_n 0, 9, 0, []) else none
   else
    if pc < 12 then
     if pc = 9 then some (.getfield 21, 12, 8, [3, 1, 5]) else none
    else
     if pc = 12 then some (.aload_n 0, 13, 0, []) else none
 else
  if pc < 21 then
   if pc < 17 then
    if pc < 16 then
     if pc = 13 then some (.getfield 24, 16, 8, [4, 0, 5]) else none
    else
     if pc = 16 then some (.baload, 17, 0, []) else none
   else
    if pc < 20 then
     if pc = 17 then some (.ifCond .ne 7, 20, 24, []) else none
    else
     if pc = 20 then some (.iconst 1, 21, 0, []) else none
  else
   if pc < 25 then
    if pc < 24 then
     if pc = 21 then some (.goto 4, 24, 25, []) else none
    else
     if pc = 24 then some (.iconst 0, 25, 0, []) else none
   else
    if pc < 26 then
     if pc = 25 then some (.bastore, 26, 0, []) else none
    else
     if pc = 26 then some (.return_, 27, 0, []) else none

def mc_X8_nextAnd (pc : Nat) : Option mE :=
 if pc < 25 then
  if pc < 12 then
   if pc < 5 then
    if pc < 1 then
     if pc = 0 then some (.aload_n 0, 1, 0, []) else none
    else
     if pc < 4 then
      if pc = 1 then some (.getfield 15, 4, 8, [1, 1, 5]) else none
     else
      if pc = 4 then some (.aload_n 0, 5, 0, []) else none
   else
    if pc < 8 then
     if pc = 5 then some (.getfield 24, 8, 8, [4, 0, 5]) else none
    else
     if pc < 9 then
      if pc = 8 then some (.aload_n 0, 9, 0, []) else none
     else
      if pc = 9 then some (.getfield 15, 12, 8, [1, 1, 5]) else none
  else
   if pc < 17 then
    if pc < 13 then
     if pc = 12 then some (.aload_n 0, 13, 0, []) else none
    else
     if pc < 16 then
      if pc = 13 then some (.getfield 24, 16, 8, [4, 0, 5]) else none
     else
      if pc = 16 then some (.baload, 17, 0, []) else none
   else
    if pc < 21 then
     if pc < 20 then
      if pc = 17 then some (.ifCond .ne 15, 20, 32, []) else none
     else
      if pc = 20 then some (.aload_n 0, 21, 0, []) else none
    else
     if pc < 24 then
      if pc = 21 then some (.getfield 18, 24, 8, [2, 1, 5]) else none
     else
      if pc = 24 then some (.aload_n 0, 25, 0, []) else none
 else
  if pc < 38 then
   if pc < 32 then
    if pc < 28 then
     if pc = 25 then some (.getfield 24, 28, 8, [4, 0, 5]) else none
    else
     if pc < 29 then
      if pc = 28 then some (.baload, 29, 0, []) else none
     else
      if pc = 29 then some (.ifCond .eq 7, 32, 36, []) else none
   else
    if pc < 36 then
     if pc < 33 then
      if pc = 32 then some (.iconst 1, 33, 0, []) else none
     else
      if pc = 33 then some (.goto 4, 36, 37, []) else none
    else
     if pc < 37 then
      if pc = 36 then some (.iconst 0, 37, 0, []) else none
     else
      if pc = 37 then some (.bastore, 38, 0, []) else none
  else
   if pc < 43 then
    if pc < 39 then
     if pc = 38 then some (.aload_n 0, 39, 0, []) else none
    else
     if pc < 42 then
      if pc = 39 then some (.getfield 18, 42, 8, [2, 1, 5]) else none
     else
      if pc = 42 then some (.aload_n 0, 43, 0, []) else none
   else
    if pc < 47 then
     if pc < 46 then
      if pc = 43 then some (.getfield 24, 46, 8, [4, 0, 5]) else none
     else
      if pc = 46 then some (.iconst 1, 47, 0, []) else none
    else
     if pc < 48 then
      if pc = 47 then some (.bastore, 48, 0, []) else none
     else
      if pc = 48 then some (.return_, 49, 0, []) else none

def mc_X8_enter (pc : Nat) : Option mE :=
 if pc < 15 then
  if pc < 6 then
   if pc < 4 then
    if pc < 1 then
     if pc = 0 then some (.aload_n 0, 1, 0, []) else none
    else
     if pc = 1 then some (.invokevirtual 32, 4, 56, [1, 0, 0, 1, 9, 0, 0]) else none
   else
    if pc < 5 then
     if pc = 4 then some (.istore_n 1, 5, 1, []) else none
    else
     if pc = 5 then some (.aload_n 0, 6, 0, []) else none
  else
   if pc < 11 then
    if pc < 9 then
     if pc = 6 then some (.getfield 24, 9, 8, [4, 0, 5]) else none
    else
     if pc = 9 then some (.bipush 50, 11, 0, []) else none
   else
    if pc < 14 then
     if pc = 11 then some (.if_icmp .ge 18, 14, 29, []) else none
    else
     if pc = 14 then some (.aload_n 0, 15, 0, []) else none
 else
  if pc < 21 then
   if pc < 19 then
    if pc < 16 then
     if pc = 15 then some (.dup, 16, 0, []) else none
    else
     if pc = 16 then some (.getfield 24, 19, 8, [4, 0, 5]) else none
   else
    if pc < 20 then
     if pc = 19 then some (.iconst 1, 20, 0, []) else none
    else
     if pc = 20 then some (.iadd, 21, 0, []) else none
  else
   if pc < 25 then
    if pc < 24 then
     if pc = 21 then some (.putfield 24, 24, 8, [4, 0, 5]) else none
    else
     if pc = 24 then some (.aload_n 0, 25, 0, []) else none
   else
    if pc < 26 then
     if pc = 25 then some (.iload_n 1, 26, 1, []) else none
    else
     if pc < 29 then
      if pc = 26 then some (.invokevirtual 28, 29, 55, [2, 0, 0, 2, 9, 0, 0]) else none
     else
      if pc = 29 then some (.return_, 30, 0, []) else none

def mc_X8_leave (pc : Nat) : Option mE :=
 if pc < 14 then
  if pc < 6 then
   if pc < 4 then
    if pc < 1 then
     if pc = 0 then some (.aload_n 0, 1, 0, []) else none
    else
     if pc = 1 then some (.invokevirtual 36, 4, 57, [1, 0, 0, 1, 9, 0, 0]) else none
   else
    if pc < 5 then
     if pc = 4 then some (.istore_n 1, 5, 1, []) else none
    else
     if pc = 5 then some (.aload_n 0, 6, 0, []) else none
  else
   if pc < 12 then
    if pc < 9 then
     if pc = 6 then some (.getfield 24, 9, 8, [4, 0, 5]) else none
    else
     if pc = 9 then some (.ifCond .le 18, 12, 27, []) else none
   else
    if pc < 13 then
     if pc = 12 then some (.aload_n 0, 13, 0, []) else none
    else
     if pc = 13 then some (.dup, 14, 0, []) else none
 else
  if pc < 22 then
   if pc < 18 then
    if pc < 17 then
     if pc = 14 then some (.getfield 24, 17, 8, [4, 0, 5]) else none
    else
     if pc = 17 then some (.iconst 1, 18, 0, []) else none
   else
    if pc < 19 then
     if pc = 18 then some (.isub, 19, 0, []) else none
    else
     if pc = 19 then some (.putfield 24, 22, 8, [4, 0, 5]) else none
  else
   if pc < 24 then
    if pc < 23 then
     if pc = 22 then some (.aload_n 0, 23, 0, []) else none
    else
     if pc = 23 then some (.iload_n 1, 24, 1, []) else none
   else
    if pc < 27 then
     if pc = 24 then some (.invokevirtual 39, 27, 58, [2, 0, 0, 2, 9, 0, 0]) else none
    else
     if pc = 27 then some (.return_, 28, 0, []) else none

def mc_X9_init (pc : Nat) : Option mE :=
 if pc < 10 then
  if pc < 4 then
   if pc < 1 then
    if pc = 0 then some (.aload_n 0, 1, 0, []) else none
   else
    if pc = 1 then some (.invokespecial 3, 4, 1000, []) else none
  else
   if pc < 5 then
    if pc = 4 then some (.aload_n 0, 5, 0, []) else none
   else
    if pc < 8 then
     if pc = 5 then some (.sipush 420, 8, 0, []) else none
    else
     if pc = 8 then some (.newarray .char, 10, 21, []) else none
 else
  if pc < 14 then
   if pc < 13 then
    if pc = 10 then some (.putfield 9, 13, 9, [1, 1, 7]) else none
   else
    if pc = 13 then some (.aload_n 0, 14, 0, []) else none
  else
   if pc < 15 then
    if pc = 14 then some (.aload_n 1, 15, 1, []) else none
   else
    if pc < 18 then
     if pc = 15 then some (.putfield 15, 18, 9, [0, 1, 7]) else none
    else
     if pc = 18 then some (.return_, 19, 0, []) else none

def mc_X9_along (pc : Nat) : Option mE :=
 if pc < 91 then
  if pc < 40 then
   if pc < 17 then
    if pc < 6 then
     if pc < 2 then
      if pc < 1 then
       if pc = 0 then some (.iload_n 3, 1, 3, []) else none
      else
       if pc = 1 then some (.iload_n 2, 2, 2, []) else none
     else
      if pc < 3 then
       if pc = 2 then some (.isub, 3, 0, []) else none
      else
       if pc < 5 then
        if pc = 3 then some (.istore 5, 5, 5, []) else none
       else
        if pc = 5 then some (.iload_n 2, 6, 2, []) else none
    else
     if pc < 11 then
      if pc < 9 then
       if pc = 6 then some (.ifCond .lt 23, 9, 29, []) else none
      else
       if pc < 10 then
        if pc = 9 then some (.iload_n 3, 10, 3, []) else none
       else
        if pc = 10 then some (.aload_n 1, 11, 1, []) else none
     else
      if pc < 12 then
       if pc = 11 then some (.arraylength, 12, 0, []) else none
      else
       if pc < 15 then
        if pc = 12 then some (.if_icmp .gt 17, 15, 29, []) else none
       else
        if pc = 15 then some (.iload 5, 17, 5, []) else none
   else
    if pc < 29 then
     if pc < 21 then
      if pc < 18 then
       if pc = 17 then some (.iconst 1, 18, 0, []) else none
      else
       if pc = 18 then some (.if_icmp .lt 11, 21, 29, []) else none
     else
      if pc < 23 then
       if pc = 21 then some (.iload 5, 23, 5, []) else none
      else
       if pc < 26 then
        if pc = 23 then some (.sipush 420, 26, 0, []) else none
       else
        if pc = 26 then some (.if_icmp .le 6, 29, 32, []) else none
    else
     if pc < 33 then
      if pc < 31 then
       if pc = 29 then some (.bipush (-2), 31, 0, []) else none
      else
       if pc < 32 then
        if pc = 31 then some (.ireturn, 32, 0, []) else none
       else
        if pc = 32 then some (.aload_n 0, 33, 0, []) else none
     else
      if pc < 36 then
       if pc = 33 then some (.sipush 420, 36, 0, []) else none
      else
       if pc < 39 then
        if pc = 36 then some (.putfield 19, 39, 9, [2, 0, 7]) else none
       else
        if pc = 39 then some (.aload_n 0, 40, 0, []) else none
  else
   if pc < 60 then
    if pc < 49 then
     if pc < 44 then
      if pc < 41 then
       if pc = 40 then some (.iconst 0, 41, 0, []) else none
      else
       if pc = 41 then some (.putfield 23, 44, 9, [4, 0, 7]) else none
     else
      if pc < 45 then
       if pc = 44 then some (.aload_n 0, 45, 0, []) else none
      else
       if pc < 46 then
        if pc = 45 then some (.aload_n 0, 46, 0, []) else none
       else
        if pc = 46 then some (.getfield 15, 49, 9, [0, 1, 7]) else none
    else
     if pc < 56 then
      if pc < 52 then
       if pc = 49 then some (.getfield 26, 52, 7, [2, 0, 3]) else none
      else
       if pc < 55 then
        if pc = 52 then some (.putfield 31, 55, 9, [3, 0, 7]) else none
       else
        if pc = 55 then some (.aload_n 0, 56, 0, []) else none
     else
      if pc < 57 then
       if pc = 56 then some (.aload_n 1, 57, 1, []) else none
      else
       if pc < 58 then
        if pc = 57 then some (.iload_n 2, 58, 2, []) else none
       else
        if pc = 58 then some (.iload 5, 60, 5, []) else none
   else
    if pc < 75 then
     if pc < 68 then
      if pc < 63 then
       if pc = 60 then some (.invokevirtual 34, 63, 65, [4, 0, 0, 4, 10, 0, 0]) else none
      else
       if pc < 64 then
        if pc = 63 then some (.iconst 0, 64, 0, []) else none
       else
        if pc = 64 then some (.istore 6, 100066, 6, []) else none
     else
      if pc < 71 then
       if pc = 68 then some (.sipush 420, 71, 0, []) else none
      else
       if pc < 74 then
        if pc = 71 then some (.if_icmp .gt 111, 74, 182, []) else none
       else
        if pc = 74 then some (.aload_n 0, 75, 0, []) else none
    else
     if pc < 84 then
      if pc < 78 then
       if pc = 75 then some (.getfield 19, 78, 9, [2, 0, 7]) else none
      else
       if pc < 81 then
        if pc = 78 then some (.istore 7, 100080, 7, []) else none
       else
        if pc = 81 then some (.getfield 19, 84, 9, [2, 0, 7]) else none
     else
      if pc < 87 then
       if pc = 84 then some (.sipush 420, 87, 0, []) else none
      else
       if pc < 90 then
        if pc = 87 then some (.if_icmp .ge 30, 90, 117, []) else none
       else
        if pc = 90 then some (.aload_n 0, 91, 0, []) else none
 else
  if pc < 140 then
   if pc < 111 then
    if pc < 101 then
     if pc < 95 then
      if pc < 94 then
       if pc = 91 then some (.getfield 9, 94, 9, [1, 1, 7]) else none
      else
       if pc = 94 then some (.aload_n 0, 95, 0, []) else none
     else
      if pc < 98 then
       if pc = 95 then some (.getfield 19, 98, 9, [2, 0, 7]) else none
      else
       if pc < 99 then
        if pc = 98 then some (.caload, 99, 0, []) else none
       else
        if pc = 99 then some (.bipush 47, 101, 0, []) else none
    else
     if pc < 106 then
      if pc < 104 then
       if pc = 101 then some (.if_icmp .ne 16, 104, 117, []) else none
      else
       if pc < 105 then
        if pc = 104 then some (.aload_n 0, 105, 0, []) else none
       else
        if pc = 105 then some (.dup, 106, 0, []) else none
     else
      if pc < 109 then
       if pc = 106 then some (.getfield 19, 109, 9, [2, 0, 7]) else none
      else
       if pc < 110 then
        if pc = 109 then some (.iconst 1, 110, 0, []) else none
       else
        if pc = 110 then some (.iadd, 111, 0, []) else none
   else
    if pc < 127 then
     if pc < 118 then
      if pc < 114 then
       if pc = 111 then some (.putfield 19, 114, 9, [2, 0, 7]) else none
      else
       if pc < 117 then
        if pc = 114 then some (.goto (-34), 117, 100080, []) else none
       else
        if pc = 117 then some (.aload_n 0, 118, 0, []) else none
     else
      if pc < 121 then
       if pc = 118 then some (.getfield 19, 121, 9, [2, 0, 7]) else none
      else
       if pc < 124 then
        if pc = 121 then some (.sipush 420, 124, 0, []) else none
       else
        if pc = 124 then some (.if_icmp .lt 36, 127, 160, []) else none
    else
     if pc < 133 then
      if pc < 128 then
       if pc = 127 then some (.aload_n 0, 128, 0, []) else none
      else
       if pc < 131 then
        if pc = 128 then some (.getfield 19, 131, 9, [2, 0, 7]) else none
       else
        if pc = 131 then some (.iload 7, 133, 7, []) else none
     else
      if pc < 136 then
       if pc = 133 then some (.if_icmp .le 22, 136, 155, []) else none
      else
       if pc < 137 then
        if pc = 136 then some (.aload_n 0, 137, 0, []) else none
       else
        if pc = 137 then some (.getfield 15, 140, 9, [0, 1, 7]) else none
  else
   if pc < 163 then
    if pc < 152 then
     if pc < 144 then
      if pc < 141 then
       if pc = 140 then some (.aload_n 0, 141, 0, []) else none
      else
       if pc = 141 then some (.getfield 31, 144, 9, [3, 0, 7]) else none
     else
      if pc < 147 then
       if pc = 144 then some (.invokevirtual 38, 147, 49, [2, 0, 0, 3, 8, 0, 0]) else none
      else
       if pc < 150 then
        if pc = 147 then some (.ifCond .ne 8, 150, 155, []) else none
       else
        if pc = 150 then some (.bipush (-3), 152, 0, []) else none
    else
     if pc < 159 then
      if pc < 155 then
       if pc = 152 then some (.goto 7, 155, 159, []) else none
      else
       if pc < 156 then
        if pc = 155 then some (.aload_n 0, 156, 0, []) else none
       else
        if pc = 156 then some (.getfield 31, 159, 9, [3, 0, 7]) else none
     else
      if pc < 160 then
       if pc = 159 then some (.ireturn, 160, 0, []) else none
      else
       if pc < 161 then
        if pc = 160 then some (.aload_n 0, 161, 0, []) else none
       else
        if pc = 161 then some (.iload 4, 163, 4, []) else none
   else
    if pc < 176 then
     if pc < 170 then
      if pc < 166 then
       if pc = 163 then some (.invokevirtual 42, 166, 66, [2, 0, 0, 7, 10, 0, 0]) else none
      else
       if pc < 168 then
        if pc = 166 then some (.istore 8, 168, 8, []) else none
       else
        if pc = 168 then some (.iload 8, 170, 8, []) else none
     else
      if pc < 173 then
       if pc = 170 then some (.ifCond .eq 6, 173, 176, []) else none
      else
       if pc < 175 then
        if pc = 173 then some (.iload 8, 175, 8, []) else none
       else
        if pc = 175 then some (.ireturn, 176, 0, []) else none
    else
     if pc < 184 then
      if pc < 179 then
       if pc = 176 then some (.iinc 6 1, 179, 6, []) else none
      else
       if pc < 182 then
        if pc = 179 then some (.goto (-113), 182, 100066, []) else none
       else
        if pc = 182 then some (.bipush (-5), 184, 0, []) else none
     else
      if pc < 100066 then
       if pc = 184 then some (.ireturn, 185, 0, []) else none
      else
       if pc < 100080 then
        if pc = 100066 then some (.iload 6, 68, 6, []) else none
       else
        if pc = 100080 then some (.aload_n 0, 81, 0, []) else none

def mc_X9_putInFront (pc : Nat) : Option mE :=
 if pc < 21 then
  if pc < 10 then
   if pc < 5 then
    if pc < 1 then
     if pc = 0 then some (.aload_n 0, 1, 0, []) else none
    else
     if pc < 2 then
      if pc = 1 then some (.dup, 2, 0, []) else none
     else
      if pc = 2 then some (.getfield 19, 5, 9, [2, 0, 7]) else none
   else
    if pc < 6 then
     if pc = 5 then some (.iload_n 3, 6, 3, []) else none
    else
     if pc < 7 then
      if pc = 6 then some (.isub, 7, 0, []) else none
     else
      if pc = 7 then some (.putfield 19, 10, 9, [2, 0, 7]) else none
  else
   if pc < 13 then
    if pc < 11 then
     if pc = 10 then some (.aload_n 1, 11, 1, []) else none
    else
     if pc < 12 then
      if pc = 11 then some (.iload_n 2, 12, 2, []) else none
     else
      if pc = 12 then some (.aload_n 0, 13, 0, []) else none
   else
    if pc < 17 then
     if pc < 16 then
      if pc = 13 then some (.getfield 9, 16, 9, [1, 1, 7]) else none
     else
      if pc = 16 then some (.aload_n 0, 17, 0, []) else none
    else
     if pc < 20 then
      if pc = 17 then some (.getfield 19, 20, 9, [2, 0, 7]) else none
     else
      if pc = 20 then some (.iload_n 3, 21, 3, []) else none
 else
  if pc < 31 then
   if pc < 26 then
    if pc < 24 then
     if pc = 21 then some (.invokestatic 46, 24, 1001, []) else none
    else
     if pc < 25 then
      if pc = 24 then some (.aload_n 0, 25, 0, []) else none
     else
      if pc = 25 then some (.aconst_null, 26, 0, []) else none
   else
    if pc < 29 then
     if pc = 26 then some (.putfield 52, 29, 9, [6, 1, 7]) else none
    else
     if pc < 30 then
      if pc = 29 then some (.aload_n 1, 30, 1, []) else none
     else
      if pc = 30 then some (.iload_n 2, 31, 2, []) else none
  else
   if pc < 37 then
    if pc < 32 then
     if pc = 31 then some (.caload, 32, 0, []) else none
    else
     if pc < 34 then
      if pc = 32 then some (.bipush 47, 34, 0, []) else none
     else
      if pc = 34 then some (.if_icmp .ne 8, 37, 42, []) else none
   else
    if pc < 39 then
     if pc < 38 then
      if pc = 37 then some (.aload_n 0, 38, 0, []) else none
     else
      if pc = 38 then some (.iconst 0, 39, 0, []) else none
    else
     if pc < 42 then
      if pc = 39 then some (.putfield 31, 42, 9, [3, 0, 7]) else none
     else
      if pc = 42 then some (.return_, 43, 0, []) else none

def mc_X9_takeStep (pc : Nat) : Option mE :=
 if pc < 111 then
  if pc < 58 then
   if pc < 30 then
    if pc < 16 then
     if pc < 6 then
      if pc < 1 then
       if pc = 0 then some (.aload_n 0, 1, 0, []) else none
      else
       if pc < 4 then
        if pc = 1 then some (.getfield 19, 4, 9, [2, 0, 7]) else none
       else
        if pc = 4 then some (.istore_n 2, 100005, 2, []) else none
     else
      if pc < 12 then
       if pc < 9 then
        if pc = 6 then some (.getfield 19, 9, 9, [2, 0, 7]) else none
       else
        if pc = 9 then some (.sipush 420, 12, 0, []) else none
      else
       if pc < 15 then
        if pc = 12 then some (.if_icmp .ge 30, 15, 42, []) else none
       else
        if pc = 15 then some (.aload_n 0, 16, 0, []) else none
    else
     if pc < 23 then
      if pc < 19 then
       if pc = 16 then some (.getfield 9, 19, 9, [1, 1, 7]) else none
      else
       if pc < 20 then
        if pc = 19 then some (.aload_n 0, 20, 0, []) else none
       else
        if pc = 20 then some (.getfield 19, 23, 9, [2, 0, 7]) else none
     else
      if pc < 26 then
       if pc < 24 then
        if pc = 23 then some (.caload, 24, 0, []) else none
       else
        if pc = 24 then some (.bipush 47, 26, 0, []) else none
      else
       if pc < 29 then
        if pc = 26 then some (.if_icmp .eq 16, 29, 42, []) else none
       else
        if pc = 29 then some (.aload_n 0, 30, 0, []) else none
   else
    if pc < 43 then
     if pc < 35 then
      if pc < 31 then
       if pc = 30 then some (.dup, 31, 0, []) else none
      else
       if pc < 34 then
        if pc = 31 then some (.getfield 19, 34, 9, [2, 0, 7]) else none
       else
        if pc = 34 then some (.iconst 1, 35, 0, []) else none
     else
      if pc < 39 then
       if pc < 36 then
        if pc = 35 then some (.iadd, 36, 0, []) else none
       else
        if pc = 36 then some (.putfield 19, 39, 9, [2, 0, 7]) else none
      else
       if pc < 42 then
        if pc = 39 then some (.goto (-34), 42, 100005, []) else none
       else
        if pc = 42 then some (.aload_n 0, 43, 0, []) else none
    else
     if pc < 50 then
      if pc < 46 then
       if pc = 43 then some (.getfield 15, 46, 9, [0, 1, 7]) else none
      else
       if pc < 47 then
        if pc = 46 then some (.aload_n 0, 47, 0, []) else none
       else
        if pc = 47 then some (.getfield 31, 50, 9, [3, 0, 7]) else none
     else
      if pc < 54 then
       if pc < 53 then
        if pc = 50 then some (.invokevirtual 56, 53, 48, [2, 0, 0, 2, 8, 0, 0]) else none
       else
        if pc = 53 then some (.astore_n 3, 54, 3, []) else none
      else
       if pc < 55 then
        if pc = 54 then some (.aload_n 3, 55, 3, []) else none
       else
        if pc = 55 then some (.ifnull 10, 58, 65, []) else none
  else
   if pc < 82 then
    if pc < 72 then
     if pc < 65 then
      if pc < 59 then
       if pc = 58 then some (.aload_n 3, 59, 3, []) else none
      else
       if pc < 62 then
        if pc = 59 then some (.getfield 60, 62, 5, [0, 0, 10]) else none
       else
        if pc = 62 then some (.ifCond .eq 6, 65, 68, []) else none
     else
      if pc < 68 then
       if pc < 67 then
        if pc = 65 then some (.bipush (-3), 67, 0, []) else none
       else
        if pc = 67 then some (.ireturn, 68, 0, []) else none
      else
       if pc < 69 then
        if pc = 68 then some (.aload_n 3, 69, 3, []) else none
       else
        if pc = 69 then some (.getfield 65, 72, 5, [6, 0, 10]) else none
    else
     if pc < 77 then
      if pc < 73 then
       if pc = 72 then some (.iconst 1, 73, 0, []) else none
      else
       if pc < 74 then
        if pc = 73 then some (.iand, 74, 0, []) else none
       else
        if pc = 74 then some (.ifCond .ne 6, 77, 80, []) else none
     else
      if pc < 80 then
       if pc < 79 then
        if pc = 77 then some (.bipush (-4), 79, 0, []) else none
       else
        if pc = 79 then some (.ireturn, 80, 0, []) else none
      else
       if pc < 81 then
        if pc = 80 then some (.aload_n 0, 81, 0, []) else none
       else
        if pc = 81 then some (.iload_n 2, 82, 2, []) else none
   else
    if pc < 97 then
     if pc < 89 then
      if pc < 85 then
       if pc = 82 then some (.invokevirtual 68, 85, 67, [2, 0, 0, 3, 10, 0, 0]) else none
      else
       if pc < 87 then
        if pc = 85 then some (.istore 4, 87, 4, []) else none
       else
        if pc = 87 then some (.iload 4, 89, 4, []) else none
     else
      if pc < 93 then
       if pc < 92 then
        if pc = 89 then some (.ifCond .le 31, 92, 120, []) else none
       else
        if pc = 92 then some (.aload_n 0, 93, 0, []) else none
      else
       if pc < 94 then
        if pc = 93 then some (.aconst_null, 94, 0, []) else none
       else
        if pc = 94 then some (.putfield 52, 97, 9, [6, 1, 7]) else none
    else
     if pc < 101 then
      if pc < 98 then
       if pc = 97 then some (.aload_n 0, 98, 0, []) else none
      else
       if pc < 100 then
        if pc = 98 then some (.iload 4, 100, 4, []) else none
       else
        if pc = 100 then some (.iconst 2, 101, 0, []) else none
     else
      if pc < 105 then
       if pc < 104 then
        if pc = 101 then some (.if_icmp .ne 10, 104, 111, []) else none
       else
        if pc = 104 then some (.aload_n 3, 105, 3, []) else none
      else
       if pc < 108 then
        if pc = 105 then some (.getfield 72, 108, 5, [8, 0, 10]) else none
       else
        if pc = 108 then some (.goto 7, 111, 115, []) else none
 else
  if pc < 170 then
   if pc < 137 then
    if pc < 122 then
     if pc < 118 then
      if pc < 112 then
       if pc = 111 then some (.aload_n 0, 112, 0, []) else none
      else
       if pc < 115 then
        if pc = 112 then some (.getfield 31, 115, 9, [3, 0, 7]) else none
       else
        if pc = 115 then some (.putfield 31, 118, 9, [3, 0, 7]) else none
     else
      if pc < 120 then
       if pc < 119 then
        if pc = 118 then some (.iconst 0, 119, 0, []) else none
       else
        if pc = 119 then some (.ireturn, 120, 0, []) else none
      else
       if pc < 121 then
        if pc = 120 then some (.aload_n 3, 121, 3, []) else none
       else
        if pc = 121 then some (.aload_n 0, 122, 0, []) else none
    else
     if pc < 127 then
      if pc < 125 then
       if pc = 122 then some (.getfield 9, 125, 9, [1, 1, 7]) else none
      else
       if pc < 126 then
        if pc = 125 then some (.iload_n 2, 126, 2, []) else none
       else
        if pc = 126 then some (.aload_n 0, 127, 0, []) else none
     else
      if pc < 133 then
       if pc < 130 then
        if pc = 127 then some (.getfield 19, 130, 9, [2, 0, 7]) else none
       else
        if pc = 130 then some (.invokevirtual 75, 133, 39, [4, 0, 0, 6, 6, 0, 0]) else none
      else
       if pc < 135 then
        if pc = 133 then some (.astore 5, 135, 5, []) else none
       else
        if pc = 135 then some (.aload 5, 137, 5, []) else none
   else
    if pc < 153 then
     if pc < 144 then
      if pc < 140 then
       if pc = 137 then some (.ifnonnull 7, 140, 144, []) else none
      else
       if pc < 141 then
        if pc = 140 then some (.aconst_null, 141, 0, []) else none
       else
        if pc = 141 then some (.goto 15, 144, 156, []) else none
     else
      if pc < 148 then
       if pc < 145 then
        if pc = 144 then some (.aload_n 0, 145, 0, []) else none
       else
        if pc = 145 then some (.getfield 15, 148, 9, [0, 1, 7]) else none
      else
       if pc < 150 then
        if pc = 148 then some (.aload 5, 150, 5, []) else none
       else
        if pc = 150 then some (.getfield 79, 153, 0, [1, 0, 2]) else none
    else
     if pc < 160 then
      if pc < 156 then
       if pc = 153 then some (.invokevirtual 56, 156, 48, [2, 0, 0, 2, 8, 0, 0]) else none
      else
       if pc < 158 then
        if pc = 156 then some (.astore 6, 158, 6, []) else none
       else
        if pc = 158 then some (.aload 5, 160, 5, []) else none
     else
      if pc < 165 then
       if pc < 163 then
        if pc = 160 then some (.ifnull 8, 163, 168, []) else none
       else
        if pc = 163 then some (.aload 6, 165, 6, []) else none
      else
       if pc < 168 then
        if pc = 165 then some (.ifnonnull 6, 168, 171, []) else none
       else
        if pc = 168 then some (.bipush (-2), 170, 0, []) else none
  else
   if pc < 200 then
    if pc < 184 then
     if pc < 176 then
      if pc < 171 then
       if pc = 170 then some (.ireturn, 171, 0, []) else none
      else
       if pc < 173 then
        if pc = 171 then some (.aload 6, 173, 6, []) else none
       else
        if pc = 173 then some (.getfield 60, 176, 5, [0, 0, 10]) else none
     else
      if pc < 180 then
       if pc < 177 then
        if pc = 176 then some (.iconst 2, 177, 0, []) else none
       else
        if pc = 177 then some (.if_icmp .ne 24, 180, 201, []) else none
      else
       if pc < 181 then
        if pc = 180 then some (.iload_n 1, 181, 1, []) else none
       else
        if pc = 181 then some (.ifCond .ne 13, 184, 194, []) else none
    else
     if pc < 191 then
      if pc < 185 then
       if pc = 184 then some (.aload_n 0, 185, 0, []) else none
      else
       if pc < 188 then
        if pc = 185 then some (.getfield 19, 188, 9, [2, 0, 7]) else none
       else
        if pc = 188 then some (.sipush 420, 191, 0, []) else none
     else
      if pc < 195 then
       if pc < 194 then
        if pc = 191 then some (.if_icmp .ge 10, 194, 201, []) else none
       else
        if pc = 194 then some (.aload_n 0, 195, 0, []) else none
      else
       if pc < 197 then
        if pc = 195 then some (.aload 6, 197, 6, []) else none
       else
        if pc = 197 then some (.invokevirtual 84, 200, 68, [2, 0, 0, 3, 10, 0, 0]) else none
   else
    if pc < 212 then
     if pc < 204 then
      if pc < 201 then
       if pc = 200 then some (.ireturn, 201, 0, []) else none
      else
       if pc < 202 then
        if pc = 201 then some (.aload_n 0, 202, 0, []) else none
       else
        if pc = 202 then some (.aload 5, 204, 5, []) else none
     else
      if pc < 208 then
       if pc < 207 then
        if pc = 204 then some (.putfield 52, 207, 9, [6, 1, 7]) else none
       else
        if pc = 207 then some (.aload_n 0, 208, 0, []) else none
      else
       if pc < 209 then
        if pc = 208 then some (.aload_n 0, 209, 0, []) else none
       else
        if pc = 209 then some (.getfield 31, 212, 9, [3, 0, 7]) else none
    else
     if pc < 221 then
      if pc < 216 then
       if pc < 215 then
        if pc = 212 then some (.putfield 88, 215, 9, [5, 0, 7]) else none
       else
        if pc = 215 then some (.aload_n 0, 216, 0, []) else none
      else
       if pc < 218 then
        if pc = 216 then some (.aload 5, 218, 5, []) else none
       else
        if pc = 218 then some (.getfield 79, 221, 0, [1, 0, 2]) else none
     else
      if pc < 225 then
       if pc < 224 then
        if pc = 221 then some (.putfield 31, 224, 9, [3, 0, 7]) else none
       else
        if pc = 224 then some (.iconst 0, 225, 0, []) else none
      else
       if pc < 100005 then
        if pc = 225 then some (.ireturn, 226, 0, []) else none
       else
        if pc = 100005 then some (.aload_n 0, 6, 0, []) else none

def mc_X9_dotsAlone (pc : Nat) : Option mE :=
 if pc < 29 then
  if pc < 13 then
   if pc < 6 then
    if pc < 4 then
     if pc < 1 then
      if pc = 0 then some (.aload_n 0, 1, 0, []) else none
     else
      if pc = 1 then some (.getfield 19, 4, 9, [2, 0, 7]) else none
    else
     if pc < 5 then
      if pc = 4 then some (.iload_n 1, 5, 1, []) else none
     else
      if pc = 5 then some (.isub, 6, 0, []) else none
   else
    if pc < 8 then
     if pc < 7 then
      if pc = 6 then some (.istore_n 2, 7, 2, []) else none
     else
      if pc = 7 then some (.iload_n 1, 8, 1, []) else none
    else
     if pc < 11 then
      if pc = 8 then some (.ifCond .lt 24, 11, 32, []) else none
     else
      if pc < 12 then
       if pc = 11 then some (.iload_n 2, 12, 2, []) else none
      else
       if pc = 12 then some (.iconst 1, 13, 0, []) else none
  else
   if pc < 21 then
    if pc < 17 then
     if pc < 16 then
      if pc = 13 then some (.if_icmp .lt 19, 16, 32, []) else none
     else
      if pc = 16 then some (.iload_n 2, 17, 2, []) else none
    else
     if pc < 18 then
      if pc = 17 then some (.iconst 2, 18, 0, []) else none
     else
      if pc = 18 then some (.if_icmp .gt 14, 21, 32, []) else none
   else
    if pc < 25 then
     if pc < 22 then
      if pc = 21 then some (.aload_n 0, 22, 0, []) else none
     else
      if pc = 22 then some (.getfield 9, 25, 9, [1, 1, 7]) else none
    else
     if pc < 26 then
      if pc = 25 then some (.iload_n 1, 26, 1, []) else none
     else
      if pc < 27 then
       if pc = 26 then some (.caload, 27, 0, []) else none
      else
       if pc = 27 then some (.bipush 46, 29, 0, []) else none
 else
  if pc < 44 then
   if pc < 35 then
    if pc < 33 then
     if pc < 32 then
      if pc = 29 then some (.if_icmp .eq 5, 32, 34, []) else none
     else
      if pc = 32 then some (.iconst 0, 33, 0, []) else none
    else
     if pc < 34 then
      if pc = 33 then some (.ireturn, 34, 0, []) else none
     else
      if pc = 34 then some (.iload_n 2, 35, 2, []) else none
   else
    if pc < 39 then
     if pc < 36 then
      if pc = 35 then some (.iconst 1, 36, 0, []) else none
     else
      if pc = 36 then some (.if_icmp .eq 16, 39, 52, []) else none
    else
     if pc < 40 then
      if pc = 39 then some (.aload_n 0, 40, 0, []) else none
     else
      if pc < 43 then
       if pc = 40 then some (.getfield 9, 43, 9, [1, 1, 7]) else none
      else
       if pc = 43 then some (.iload_n 1, 44, 1, []) else none
  else
   if pc < 49 then
    if pc < 46 then
     if pc < 45 then
      if pc = 44 then some (.iconst 1, 45, 0, []) else none
     else
      if pc = 45 then some (.iadd, 46, 0, []) else none
    else
     if pc < 47 then
      if pc = 46 then some (.caload, 47, 0, []) else none
     else
      if pc = 47 then some (.bipush 46, 49, 0, []) else none
   else
    if pc < 53 then
     if pc < 52 then
      if pc = 49 then some (.if_icmp .ne 7, 52, 56, []) else none
     else
      if pc = 52 then some (.iload_n 2, 53, 2, []) else none
    else
     if pc < 56 then
      if pc = 53 then some (.goto 4, 56, 57, []) else none
     else
      if pc < 57 then
       if pc = 56 then some (.iconst 0, 57, 0, []) else none
      else
       if pc = 57 then some (.ireturn, 58, 0, []) else none

def mc_X9_follow (pc : Nat) : Option mE :=
 if pc < 27 then
  if pc < 14 then
   if pc < 6 then
    if pc < 2 then
     if pc < 1 then
      if pc = 0 then some (.aload_n 0, 1, 0, []) else none
     else
      if pc = 1 then some (.dup, 2, 0, []) else none
    else
     if pc < 5 then
      if pc = 2 then some (.getfield 23, 5, 9, [4, 0, 7]) else none
     else
      if pc = 5 then some (.iconst 1, 6, 0, []) else none
   else
    if pc < 10 then
     if pc < 7 then
      if pc = 6 then some (.iadd, 7, 0, []) else none
     else
      if pc = 7 then some (.putfield 23, 10, 9, [4, 0, 7]) else none
    else
     if pc < 11 then
      if pc = 10 then some (.aload_n 1, 11, 1, []) else none
     else
      if pc = 11 then some (.getfield 91, 14, 5, [3, 1, 10]) else none
  else
   if pc < 20 then
    if pc < 16 then
     if pc < 15 then
      if pc = 14 then some (.arraylength, 15, 0, []) else none
     else
      if pc = 15 then some (.istore_n 2, 16, 2, []) else none
    else
     if pc < 17 then
      if pc = 16 then some (.aload_n 0, 17, 0, []) else none
     else
      if pc = 17 then some (.getfield 23, 20, 9, [4, 0, 7]) else none
   else
    if pc < 25 then
     if pc < 22 then
      if pc = 20 then some (.bipush 8, 22, 0, []) else none
     else
      if pc = 22 then some (.if_icmp .gt 11, 25, 33, []) else none
    else
     if pc < 26 then
      if pc = 25 then some (.iload_n 2, 26, 2, []) else none
     else
      if pc = 26 then some (.aload_n 0, 27, 0, []) else none
 else
  if pc < 43 then
   if pc < 36 then
    if pc < 33 then
     if pc < 30 then
      if pc = 27 then some (.getfield 19, 30, 9, [2, 0, 7]) else none
     else
      if pc = 30 then some (.if_icmp .le 6, 33, 36, []) else none
    else
     if pc < 35 then
      if pc = 33 then some (.bipush (-5), 35, 0, []) else none
     else
      if pc = 35 then some (.ireturn, 36, 0, []) else none
   else
    if pc < 38 then
     if pc < 37 then
      if pc = 36 then some (.iload_n 2, 37, 2, []) else none
     else
      if pc = 37 then some (.iconst 1, 38, 0, []) else none
    else
     if pc < 41 then
      if pc = 38 then some (.if_icmp .ge 6, 41, 44, []) else none
     else
      if pc = 41 then some (.bipush (-2), 43, 0, []) else none
  else
   if pc < 49 then
    if pc < 45 then
     if pc < 44 then
      if pc = 43 then some (.ireturn, 44, 0, []) else none
     else
      if pc = 44 then some (.aload_n 0, 45, 0, []) else none
    else
     if pc < 46 then
      if pc = 45 then some (.aload_n 1, 46, 1, []) else none
     else
      if pc = 46 then some (.getfield 91, 49, 5, [3, 1, 10]) else none
   else
    if pc < 51 then
     if pc < 50 then
      if pc = 49 then some (.iconst 0, 50, 0, []) else none
     else
      if pc = 50 then some (.iload_n 2, 51, 2, []) else none
    else
     if pc < 54 then
      if pc = 51 then some (.invokevirtual 34, 54, 65, [4, 0, 0, 4, 10, 0, 0]) else none
     else
      if pc < 55 then
       if pc = 54 then some (.iconst 0, 55, 0, []) else none
      else
       if pc = 55 then some (.ireturn, 56, 0, []) else none

def mc_X10_init (pc : Nat) : Option mE :=
 if pc < 52 then
  if pc < 26 then
   if pc < 12 then
    if pc < 5 then
     if pc < 1 then
      if pc = 0 then some (.aload_n 0, 1, 0, []) else none
     else
      if pc < 4 then
       if pc = 1 then some (.invokespecial 3, 4, 1000, []) else none
      else
       if pc = 4 then some (.aload_n 0, 5, 0, []) else none
    else
     if pc < 8 then
      if pc = 5 then some (.new 9, 8, 4, [5]) else none
     else
      if pc < 9 then
       if pc = 8 then some (.dup, 9, 0, []) else none
      else
       if pc = 9 then some (.invokespecial 11, 12, 25, [1, 3, 200, 1, 5]) else none
   else
    if pc < 19 then
     if pc < 15 then
      if pc = 12 then some (.putfield 12, 15, 10, [0, 1, 7]) else none
     else
      if pc < 16 then
       if pc = 15 then some (.aload_n 0, 16, 0, []) else none
      else
       if pc = 16 then some (.new 16, 19, 7, [3]) else none
    else
     if pc < 20 then
      if pc = 19 then some (.dup, 20, 0, []) else none
     else
      if pc < 23 then
       if pc = 20 then some (.invokespecial 18, 23, 47, [1, 4, 170, 2, 8]) else none
      else
       if pc = 23 then some (.putfield 19, 26, 10, [1, 1, 7]) else none
  else
   if pc < 38 then
    if pc < 31 then
     if pc < 27 then
      if pc = 26 then some (.aload_n 0, 27, 0, []) else none
     else
      if pc < 30 then
       if pc = 27 then some (.new 23, 30, 9, [7]) else none
      else
       if pc = 30 then some (.dup, 31, 0, []) else none
    else
     if pc < 32 then
      if pc = 31 then some (.aload_n 0, 32, 0, []) else none
     else
      if pc < 35 then
       if pc = 32 then some (.getfield 19, 35, 10, [1, 1, 7]) else none
      else
       if pc = 35 then some (.invokespecial 25, 38, 63, [2, 1, 420, 2, 10]) else none
   else
    if pc < 45 then
     if pc < 41 then
      if pc = 38 then some (.putfield 28, 41, 10, [2, 1, 7]) else none
     else
      if pc < 42 then
       if pc = 41 then some (.aload_n 0, 42, 0, []) else none
      else
       if pc = 42 then some (.new 32, 45, 6, [3]) else none
    else
     if pc < 46 then
      if pc = 45 then some (.dup, 46, 0, []) else none
     else
      if pc < 49 then
       if pc = 46 then some (.invokespecial 34, 49, 42, [1, 1, 1500, 1, 7]) else none
      else
       if pc = 49 then some (.putfield 35, 52, 10, [3, 1, 7]) else none
 else
  if pc < 76 then
   if pc < 64 then
    if pc < 57 then
     if pc < 53 then
      if pc = 52 then some (.aload_n 0, 53, 0, []) else none
     else
      if pc < 56 then
       if pc = 53 then some (.new 39, 56, 1, [8]) else none
      else
       if pc = 56 then some (.dup, 57, 0, []) else none
    else
     if pc < 58 then
      if pc = 57 then some (.aload_n 0, 58, 0, []) else none
     else
      if pc < 61 then
       if pc = 58 then some (.getfield 12, 61, 10, [0, 1, 7]) else none
      else
       if pc = 61 then some (.invokespecial 41, 64, 3, [2, 4, 200, 2, 2]) else none
   else
    if pc < 71 then
     if pc < 67 then
      if pc = 64 then some (.putfield 44, 67, 10, [4, 1, 7]) else none
     else
      if pc < 68 then
       if pc = 67 then some (.aload_n 0, 68, 0, []) else none
      else
       if pc = 68 then some (.new 48, 71, 2, [14]) else none
    else
     if pc < 72 then
      if pc = 71 then some (.dup, 72, 0, []) else none
     else
      if pc < 73 then
       if pc = 72 then some (.aload_n 0, 73, 0, []) else none
      else
       if pc = 73 then some (.getfield 19, 76, 10, [1, 1, 7]) else none
  else
   if pc < 88 then
    if pc < 81 then
     if pc < 77 then
      if pc = 76 then some (.aload_n 0, 77, 0, []) else none
     else
      if pc < 80 then
       if pc = 77 then some (.getfield 12, 80, 10, [0, 1, 7]) else none
      else
       if pc = 80 then some (.aload_n 0, 81, 0, []) else none
    else
     if pc < 84 then
      if pc = 81 then some (.getfield 44, 84, 10, [4, 1, 7]) else none
     else
      if pc < 85 then
       if pc = 84 then some (.aload_n 0, 85, 0, []) else none
      else
       if pc = 85 then some (.getfield 35, 88, 10, [3, 1, 7]) else none
   else
    if pc < 95 then
     if pc < 91 then
      if pc = 88 then some (.invokespecial 50, 91, 11, [5, 7, 1031, 5, 3]) else none
     else
      if pc < 94 then
       if pc = 91 then some (.putfield 53, 94, 10, [5, 1, 7]) else none
      else
       if pc = 94 then some (.aload_n 0, 95, 0, []) else none
    else
     if pc < 96 then
      if pc = 95 then some (.iconst (-1), 96, 0, []) else none
     else
      if pc < 99 then
       if pc = 96 then some (.putfield 57, 99, 10, [6, 0, 7]) else none
      else
       if pc = 99 then some (.return_, 100, 0, []) else none

def mc_X10_type (pc : Nat) : Option mE :=
 if pc < 57 then
  if pc < 22 then
   if pc < 10 then
    if pc < 5 then
     if pc < 1 then
      if pc = 0 then some (.iload_n 1, 1, 1, []) else none
     else
      if pc < 4 then
       if pc = 1 then some (.invokestatic 61, 4, 26, [1, 0, 0, 3]) else none
      else
       if pc = 4 then some (.iload_n 2, 5, 2, []) else none
    else
     if pc < 8 then
      if pc = 5 then some (.invokestatic 61, 8, 26, [1, 0, 0, 3]) else none
     else
      if pc < 9 then
       if pc = 8 then some (.iadd, 9, 0, []) else none
      else
       if pc = 9 then some (.iload_n 3, 10, 3, []) else none
   else
    if pc < 16 then
     if pc < 13 then
      if pc = 10 then some (.invokestatic 61, 13, 26, [1, 0, 0, 3]) else none
     else
      if pc < 14 then
       if pc = 13 then some (.iadd, 14, 0, []) else none
      else
       if pc = 14 then some (.iload 4, 16, 4, []) else none
    else
     if pc < 19 then
      if pc = 16 then some (.invokestatic 61, 19, 26, [1, 0, 0, 3]) else none
     else
      if pc < 20 then
       if pc = 19 then some (.iadd, 20, 0, []) else none
      else
       if pc = 20 then some (.iload 5, 22, 5, []) else none
  else
   if pc < 35 then
    if pc < 28 then
     if pc < 25 then
      if pc = 22 then some (.invokestatic 61, 25, 26, [1, 0, 0, 3]) else none
     else
      if pc < 26 then
       if pc = 25 then some (.iadd, 26, 0, []) else none
      else
       if pc = 26 then some (.istore 6, 28, 6, []) else none
    else
     if pc < 29 then
      if pc = 28 then some (.aload_n 0, 29, 0, []) else none
     else
      if pc < 32 then
       if pc = 29 then some (.getfield 12, 32, 10, [0, 1, 7]) else none
      else
       if pc = 32 then some (.getfield 65, 35, 4, [3, 0, 5]) else none
   else
    if pc < 40 then
     if pc < 37 then
      if pc = 35 then some (.iload 6, 37, 6, []) else none
     else
      if pc < 38 then
       if pc = 37 then some (.iadd, 38, 0, []) else none
      else
       if pc = 38 then some (.bipush 100, 40, 0, []) else none
    else
     if pc < 53 then
      if pc < 43 then
       if pc = 40 then some (.if_icmp .le 13, 43, 53, []) else none
      else
       if pc = 43 then some (.new 68, 46, 0, []) else none
     else
      if pc < 54 then
       if pc = 53 then some (.aload_n 0, 54, 0, []) else none
      else
       if pc = 54 then some (.getfield 12, 57, 10, [0, 1, 7]) else none
 else
  if pc < 81 then
   if pc < 69 then
    if pc < 62 then
     if pc < 58 then
      if pc = 57 then some (.iload_n 1, 58, 1, []) else none
     else
      if pc < 61 then
       if pc = 58 then some (.invokevirtual 75, 61, 27, [2, 0, 0, 4, 5, 0, 0]) else none
      else
       if pc = 61 then some (.aload_n 0, 62, 0, []) else none
    else
     if pc < 65 then
      if pc = 62 then some (.getfield 12, 65, 10, [0, 1, 7]) else none
     else
      if pc < 66 then
       if pc = 65 then some (.iload_n 2, 66, 2, []) else none
      else
       if pc = 66 then some (.invokevirtual 75, 69, 27, [2, 0, 0, 4, 5, 0, 0]) else none
   else
    if pc < 74 then
     if pc < 70 then
      if pc = 69 then some (.aload_n 0, 70, 0, []) else none
     else
      if pc < 73 then
       if pc = 70 then some (.getfield 12, 73, 10, [0, 1, 7]) else none
      else
       if pc = 73 then some (.iload_n 3, 74, 3, []) else none
    else
     if pc < 77 then
      if pc = 74 then some (.invokevirtual 75, 77, 27, [2, 0, 0, 4, 5, 0, 0]) else none
     else
      if pc < 78 then
       if pc = 77 then some (.aload_n 0, 78, 0, []) else none
      else
       if pc = 78 then some (.getfield 12, 81, 10, [0, 1, 7]) else none
  else
   if pc < 95 then
    if pc < 87 then
     if pc < 83 then
      if pc = 81 then some (.iload 4, 83, 4, []) else none
     else
      if pc < 86 then
       if pc = 83 then some (.invokevirtual 75, 86, 27, [2, 0, 0, 4, 5, 0, 0]) else none
      else
       if pc = 86 then some (.aload_n 0, 87, 0, []) else none
    else
     if pc < 90 then
      if pc = 87 then some (.getfield 12, 90, 10, [0, 1, 7]) else none
     else
      if pc < 92 then
       if pc = 90 then some (.iload 5, 92, 5, []) else none
      else
       if pc = 92 then some (.invokevirtual 75, 95, 27, [2, 0, 0, 4, 5, 0, 0]) else none
   else
    if pc < 102 then
     if pc < 96 then
      if pc = 95 then some (.aload_n 0, 96, 0, []) else none
     else
      if pc < 99 then
       if pc = 96 then some (.getfield 12, 99, 10, [0, 1, 7]) else none
      else
       if pc = 99 then some (.invokevirtual 79, 102, 28, [1, 0, 0, 4, 5, 0, 0]) else none
    else
     if pc < 106 then
      if pc < 103 then
       if pc = 102 then some (.aload_n 0, 103, 0, []) else none
      else
       if pc = 103 then some (.getfield 12, 106, 10, [0, 1, 7]) else none
     else
      if pc < 109 then
       if pc = 106 then some (.getfield 65, 109, 4, [3, 0, 5]) else none
      else
       if pc = 109 then some (.ireturn, 110, 0, []) else none

def mc_X10_erase (pc : Nat) : Option mE :=
 if pc < 12 then
  if pc < 7 then
   if pc < 1 then
    if pc = 0 then some (.aload_n 0, 1, 0, []) else none
   else
    if pc < 4 then
     if pc = 1 then some (.getfield 12, 4, 10, [0, 1, 7]) else none
    else
     if pc = 4 then some (.getfield 65, 7, 4, [3, 0, 5]) else none
  else
   if pc < 8 then
    if pc = 7 then some (.istore_n 1, 8, 1, []) else none
   else
    if pc < 9 then
     if pc = 8 then some (.aload_n 0, 9, 0, []) else none
    else
     if pc = 9 then some (.getfield 12, 12, 10, [0, 1, 7]) else none
 else
  if pc < 17 then
   if pc < 13 then
    if pc = 12 then some (.iconst 0, 13, 0, []) else none
   else
    if pc < 16 then
     if pc = 13 then some (.putfield 65, 16, 4, [3, 0, 5]) else none
    else
     if pc = 16 then some (.aload_n 0, 17, 0, []) else none
  else
   if pc < 23 then
    if pc < 20 then
     if pc = 17 then some (.getfield 12, 20, 10, [0, 1, 7]) else none
    else
     if pc = 20 then some (.invokevirtual 79, 23, 28, [1, 0, 0, 4, 5, 0, 0]) else none
   else
    if pc < 24 then
     if pc = 23 then some (.iload_n 1, 24, 1, []) else none
    else
     if pc = 24 then some (.ireturn, 25, 0, []) else none

def mc_X10_make (pc : Nat) : Option mE :=
 if pc < 48 then
  if pc < 27 then
   if pc < 11 then
    if pc < 4 then
     if pc < 1 then
      if pc = 0 then some (.iload_n 2, 1, 2, []) else none
     else
      if pc = 1 then some (.invokestatic 82, 4, 85, [1, 0, 0, 1]) else none
    else
     if pc < 7 then
      if pc = 4 then some (.ifCond .ne 10, 7, 14, []) else none
     else
      if pc < 8 then
       if pc = 7 then some (.iload_n 3, 8, 3, []) else none
      else
       if pc = 8 then some (.invokestatic 82, 11, 85, [1, 0, 0, 1]) else none
   else
    if pc < 24 then
     if pc < 14 then
      if pc = 11 then some (.ifCond .eq 13, 14, 24, []) else none
     else
      if pc = 14 then some (.new 86, 17, 1, []) else none
    else
     if pc < 25 then
      if pc = 24 then some (.aload_n 0, 25, 0, []) else none
     else
      if pc < 26 then
       if pc = 25 then some (.iconst 0, 26, 0, []) else none
      else
       if pc = 26 then some (.iconst 1, 27, 0, []) else none
  else
   if pc < 39 then
    if pc < 32 then
     if pc < 30 then
      if pc = 27 then some (.invokevirtual 91, 30, 87, [3, 0, 0, 8, 11, 0, 0]) else none
     else
      if pc = 30 then some (.istore 4, 32, 4, []) else none
    else
     if pc < 34 then
      if pc = 32 then some (.iload 4, 34, 4, []) else none
     else
      if pc < 37 then
       if pc = 34 then some (.ifCond .ge 6, 37, 40, []) else none
      else
       if pc = 37 then some (.iload 4, 39, 4, []) else none
   else
    if pc < 41 then
     if pc < 40 then
      if pc = 39 then some (.ireturn, 40, 0, []) else none
     else
      if pc = 40 then some (.iload_n 1, 41, 1, []) else none
    else
     if pc < 44 then
      if pc = 41 then some (.ifCond .eq 17, 44, 58, []) else none
     else
      if pc < 47 then
       if pc = 44 then some (.new 95, 47, 5, [10]) else none
      else
       if pc = 47 then some (.dup, 48, 0, []) else none
 else
  if pc < 64 then
   if pc < 55 then
    if pc < 50 then
     if pc < 49 then
      if pc = 48 then some (.iconst 0, 49, 0, []) else none
     else
      if pc = 49 then some (.iconst 0, 50, 0, []) else none
    else
     if pc < 51 then
      if pc = 50 then some (.iload_n 3, 51, 3, []) else none
     else
      if pc < 52 then
       if pc = 51 then some (.iconst 0, 52, 0, []) else none
      else
       if pc = 52 then some (.invokespecial 97, 55, 38, [5, 2, 112, 5, 6]) else none
   else
    if pc < 61 then
     if pc < 58 then
      if pc = 55 then some (.goto 14, 58, 69, []) else none
     else
      if pc = 58 then some (.new 95, 61, 5, [10]) else none
    else
     if pc < 62 then
      if pc = 61 then some (.dup, 62, 0, []) else none
     else
      if pc < 63 then
       if pc = 62 then some (.iconst 1, 63, 0, []) else none
      else
       if pc = 63 then some (.iload_n 2, 64, 2, []) else none
  else
   if pc < 72 then
    if pc < 66 then
     if pc < 65 then
      if pc = 64 then some (.iload_n 3, 65, 3, []) else none
     else
      if pc = 65 then some (.iconst 0, 66, 0, []) else none
    else
     if pc < 69 then
      if pc = 66 then some (.invokespecial 97, 69, 38, [5, 2, 112, 5, 6]) else none
     else
      if pc < 71 then
       if pc = 69 then some (.astore 5, 71, 5, []) else none
      else
       if pc = 71 then some (.aload_n 0, 72, 0, []) else none
   else
    if pc < 76 then
     if pc < 74 then
      if pc = 72 then some (.aload 5, 74, 5, []) else none
     else
      if pc = 74 then some (.iload 4, 76, 4, []) else none
    else
     if pc < 77 then
      if pc = 76 then some (.iconst 0, 77, 0, []) else none
     else
      if pc < 80 then
       if pc = 77 then some (.invokevirtual 100, 80, 88, [4, 2, 102, 5, 11, 0, 0]) else none
      else
       if pc = 80 then some (.ireturn, 81, 0, []) else none

def mc_X10_link (pc : Nat) : Option mE :=
 if pc < 52 then
  if pc < 32 then
   if pc < 21 then
    if pc < 7 then
     if pc < 1 then
      if pc = 0 then some (.iload_n 1, 1, 1, []) else none
     else
      if pc < 4 then
       if pc = 1 then some (.invokestatic 82, 4, 85, [1, 0, 0, 1]) else none
      else
       if pc = 4 then some (.ifCond .eq 13, 7, 17, []) else none
    else
     if pc < 17 then
      if pc = 7 then some (.new 86, 10, 1, []) else none
     else
      if pc < 18 then
       if pc = 17 then some (.aload_n 0, 18, 0, []) else none
      else
       if pc = 18 then some (.getfield 12, 21, 10, [0, 1, 7]) else none
   else
    if pc < 26 then
     if pc < 22 then
      if pc = 21 then some (.iconst 0, 22, 0, []) else none
     else
      if pc < 25 then
       if pc = 22 then some (.invokevirtual 106, 25, 31, [2, 0, 0, 2, 5, 0, 0]) else none
      else
       if pc = 25 then some (.istore_n 2, 26, 2, []) else none
    else
     if pc < 27 then
      if pc = 26 then some (.iload_n 2, 27, 2, []) else none
     else
      if pc < 29 then
       if pc = 27 then some (.bipush 40, 29, 0, []) else none
      else
       if pc = 29 then some (.if_icmp .le 6, 32, 35, []) else none
  else
   if pc < 41 then
    if pc < 36 then
     if pc < 34 then
      if pc = 32 then some (.bipush (-9), 34, 0, []) else none
     else
      if pc < 35 then
       if pc = 34 then some (.ireturn, 35, 0, []) else none
      else
       if pc = 35 then some (.aload_n 0, 36, 0, []) else none
    else
     if pc < 37 then
      if pc = 36 then some (.iconst 1, 37, 0, []) else none
     else
      if pc < 38 then
       if pc = 37 then some (.iconst 1, 38, 0, []) else none
      else
       if pc = 38 then some (.invokevirtual 91, 41, 87, [3, 0, 0, 8, 11, 0, 0]) else none
   else
    if pc < 46 then
     if pc < 42 then
      if pc = 41 then some (.istore_n 3, 42, 3, []) else none
     else
      if pc < 43 then
       if pc = 42 then some (.iload_n 3, 43, 3, []) else none
      else
       if pc = 43 then some (.ifCond .ge 5, 46, 48, []) else none
    else
     if pc < 48 then
      if pc < 47 then
       if pc = 46 then some (.iload_n 3, 47, 3, []) else none
      else
       if pc = 47 then some (.ireturn, 48, 0, []) else none
     else
      if pc < 51 then
       if pc = 48 then some (.new 95, 51, 5, [10]) else none
      else
       if pc = 51 then some (.dup, 52, 0, []) else none
 else
  if pc < 76 then
   if pc < 61 then
    if pc < 55 then
     if pc < 53 then
      if pc = 52 then some (.iconst 2, 53, 0, []) else none
     else
      if pc < 54 then
       if pc = 53 then some (.iload_n 2, 54, 2, []) else none
      else
       if pc = 54 then some (.iload_n 1, 55, 1, []) else none
    else
     if pc < 56 then
      if pc = 55 then some (.iload_n 2, 56, 2, []) else none
     else
      if pc < 59 then
       if pc = 56 then some (.invokespecial 97, 59, 38, [5, 2, 112, 5, 6]) else none
      else
       if pc = 59 then some (.astore 4, 61, 4, []) else none
   else
    if pc < 68 then
     if pc < 62 then
      if pc = 61 then some (.aload_n 0, 62, 0, []) else none
     else
      if pc < 65 then
       if pc = 62 then some (.getfield 12, 65, 10, [0, 1, 7]) else none
      else
       if pc = 65 then some (.getfield 109, 68, 4, [0, 1, 5]) else none
    else
     if pc < 72 then
      if pc < 69 then
       if pc = 68 then some (.aload_n 0, 69, 0, []) else none
      else
       if pc = 69 then some (.getfield 12, 72, 10, [0, 1, 7]) else none
     else
      if pc < 73 then
       if pc = 72 then some (.iconst 0, 73, 0, []) else none
      else
       if pc = 73 then some (.invokevirtual 113, 76, 29, [2, 0, 0, 2, 5, 0, 0]) else none
  else
   if pc < 88 then
    if pc < 82 then
     if pc < 78 then
      if pc = 76 then some (.aload 4, 78, 4, []) else none
     else
      if pc < 81 then
       if pc = 78 then some (.getfield 116, 81, 5, [3, 1, 10]) else none
      else
       if pc = 81 then some (.iconst 0, 82, 0, []) else none
    else
     if pc < 84 then
      if pc = 82 then some (.aload 4, 84, 4, []) else none
     else
      if pc < 87 then
       if pc = 84 then some (.getfield 116, 87, 5, [3, 1, 10]) else none
      else
       if pc = 87 then some (.arraylength, 88, 0, []) else none
   else
    if pc < 94 then
     if pc < 91 then
      if pc = 88 then some (.invokestatic 119, 91, 1001, []) else none
     else
      if pc < 92 then
       if pc = 91 then some (.aload_n 0, 92, 0, []) else none
      else
       if pc = 92 then some (.aload 4, 94, 4, []) else none
    else
     if pc < 96 then
      if pc < 95 then
       if pc = 94 then some (.iload_n 3, 95, 3, []) else none
      else
       if pc = 95 then some (.iconst 1, 96, 0, []) else none
     else
      if pc < 99 then
       if pc = 96 then some (.invokevirtual 100, 99, 88, [4, 2, 102, 5, 11, 0, 0]) else none
      else
       if pc = 99 then some (.ireturn, 100, 0, []) else none

def mc_X10_tie (pc : Nat) : Option mE :=
 if pc < 29 then
  if pc < 13 then
   if pc < 6 then
    if pc < 2 then
     if pc < 1 then
      if pc = 0 then some (.aload_n 0, 1, 0, []) else none
     else
      if pc = 1 then some (.iconst 0, 2, 0, []) else none
    else
     if pc < 3 then
      if pc = 2 then some (.iconst 0, 3, 0, []) else none
     else
      if pc = 3 then some (.invokevirtual 125, 6, 86, [3, 0, 0, 3, 11, 0, 0]) else none
   else
    if pc < 8 then
     if pc < 7 then
      if pc = 6 then some (.istore_n 1, 7, 1, []) else none
     else
      if pc = 7 then some (.iload_n 1, 8, 1, []) else none
    else
     if pc < 11 then
      if pc = 8 then some (.ifCond .ge 5, 11, 13, []) else none
     else
      if pc < 12 then
       if pc = 11 then some (.iload_n 1, 12, 1, []) else none
      else
       if pc = 12 then some (.ireturn, 13, 0, []) else none
  else
   if pc < 21 then
    if pc < 17 then
     if pc < 14 then
      if pc = 13 then some (.aload_n 0, 14, 0, []) else none
     else
      if pc = 14 then some (.getfield 19, 17, 10, [1, 1, 7]) else none
    else
     if pc < 18 then
      if pc = 17 then some (.iload_n 1, 18, 1, []) else none
     else
      if pc = 18 then some (.invokevirtual 128, 21, 49, [2, 0, 0, 3, 8, 0, 0]) else none
   else
    if pc < 26 then
     if pc < 24 then
      if pc = 21 then some (.ifCond .eq 6, 24, 27, []) else none
     else
      if pc = 24 then some (.bipush (-11), 26, 0, []) else none
    else
     if pc < 27 then
      if pc = 26 then some (.ireturn, 27, 0, []) else none
     else
      if pc < 28 then
       if pc = 27 then some (.aload_n 0, 28, 0, []) else none
      else
       if pc = 28 then some (.iconst 1, 29, 0, []) else none
 else
  if pc < 44 then
   if pc < 35 then
    if pc < 33 then
     if pc < 30 then
      if pc = 29 then some (.iconst 0, 30, 0, []) else none
     else
      if pc = 30 then some (.invokevirtual 91, 33, 87, [3, 0, 0, 8, 11, 0, 0]) else none
    else
     if pc < 34 then
      if pc = 33 then some (.istore_n 2, 34, 2, []) else none
     else
      if pc = 34 then some (.iload_n 2, 35, 2, []) else none
   else
    if pc < 39 then
     if pc < 38 then
      if pc = 35 then some (.ifCond .ge 5, 38, 40, []) else none
     else
      if pc = 38 then some (.iload_n 2, 39, 2, []) else none
    else
     if pc < 40 then
      if pc = 39 then some (.ireturn, 40, 0, []) else none
     else
      if pc < 41 then
       if pc = 40 then some (.aload_n 0, 41, 0, []) else none
      else
       if pc = 41 then some (.getfield 19, 44, 10, [1, 1, 7]) else none
  else
   if pc < 50 then
    if pc < 46 then
     if pc < 45 then
      if pc = 44 then some (.iload_n 2, 45, 2, []) else none
     else
      if pc = 45 then some (.aload_n 0, 46, 0, []) else none
    else
     if pc < 49 then
      if pc = 46 then some (.getfield 12, 49, 10, [0, 1, 7]) else none
     else
      if pc = 49 then some (.iconst 1, 50, 0, []) else none
   else
    if pc < 54 then
     if pc < 53 then
      if pc = 50 then some (.invokevirtual 131, 53, 37, [2, 1, 100, 4, 5, 0, 0]) else none
     else
      if pc = 53 then some (.iload_n 1, 54, 1, []) else none
    else
     if pc < 57 then
      if pc = 54 then some (.invokevirtual 135, 57, 51, [4, 1, 2, 7, 8, 0, 0]) else none
     else
      if pc < 58 then
       if pc = 57 then some (.iload_n 1, 58, 1, []) else none
      else
       if pc = 58 then some (.ireturn, 59, 0, []) else none

def mc_X10_drop (pc : Nat) : Option mE :=
 if pc < 56 then
  if pc < 24 then
   if pc < 11 then
    if pc < 3 then
     if pc < 1 then
      if pc = 0 then some (.aload_n 0, 1, 0, []) else none
     else
      if pc < 2 then
       if pc = 1 then some (.iconst 0, 2, 0, []) else none
      else
       if pc = 2 then some (.iconst 0, 3, 0, []) else none
    else
     if pc < 7 then
      if pc < 6 then
       if pc = 3 then some (.invokevirtual 125, 6, 86, [3, 0, 0, 3, 11, 0, 0]) else none
      else
       if pc = 6 then some (.istore_n 1, 7, 1, []) else none
     else
      if pc < 8 then
       if pc = 7 then some (.iload_n 1, 8, 1, []) else none
      else
       if pc = 8 then some (.ifCond .ge 5, 11, 13, []) else none
   else
    if pc < 14 then
     if pc < 12 then
      if pc = 11 then some (.iload_n 1, 12, 1, []) else none
     else
      if pc < 13 then
       if pc = 12 then some (.ireturn, 13, 0, []) else none
      else
       if pc = 13 then some (.aload_n 0, 14, 0, []) else none
    else
     if pc < 20 then
      if pc < 17 then
       if pc = 14 then some (.getfield 28, 17, 10, [2, 1, 7]) else none
      else
       if pc = 17 then some (.getfield 139, 20, 9, [6, 1, 7]) else none
     else
      if pc < 23 then
       if pc = 20 then some (.ifnull 14, 23, 34, []) else none
      else
       if pc = 23 then some (.iload_n 1, 24, 1, []) else none
  else
   if pc < 38 then
    if pc < 31 then
     if pc < 25 then
      if pc = 24 then some (.aload_n 0, 25, 0, []) else none
     else
      if pc < 28 then
       if pc = 25 then some (.getfield 19, 28, 10, [1, 1, 7]) else none
      else
       if pc = 28 then some (.getfield 143, 31, 7, [2, 0, 3]) else none
    else
     if pc < 36 then
      if pc < 34 then
       if pc = 31 then some (.if_icmp .ne 6, 34, 37, []) else none
      else
       if pc = 34 then some (.bipush (-11), 36, 0, []) else none
     else
      if pc < 37 then
       if pc = 36 then some (.ireturn, 37, 0, []) else none
      else
       if pc = 37 then some (.aload_n 0, 38, 0, []) else none
   else
    if pc < 48 then
     if pc < 42 then
      if pc < 41 then
       if pc = 38 then some (.getfield 19, 41, 10, [1, 1, 7]) else none
      else
       if pc = 41 then some (.aload_n 0, 42, 0, []) else none
     else
      if pc < 45 then
       if pc = 42 then some (.getfield 28, 45, 10, [2, 1, 7]) else none
      else
       if pc = 45 then some (.getfield 146, 48, 9, [5, 0, 7]) else none
    else
     if pc < 52 then
      if pc < 51 then
       if pc = 48 then some (.invokevirtual 149, 51, 48, [2, 0, 0, 2, 8, 0, 0]) else none
      else
       if pc = 51 then some (.astore_n 2, 52, 2, []) else none
     else
      if pc < 53 then
       if pc = 52 then some (.aload_n 2, 53, 2, []) else none
      else
       if pc = 53 then some (.ifnull 12, 56, 65, []) else none
 else
  if pc < 82 then
   if pc < 68 then
    if pc < 61 then
     if pc < 57 then
      if pc = 56 then some (.aload_n 2, 57, 2, []) else none
     else
      if pc < 60 then
       if pc = 57 then some (.getfield 153, 60, 5, [6, 0, 10]) else none
      else
       if pc = 60 then some (.iconst 2, 61, 0, []) else none
    else
     if pc < 65 then
      if pc < 62 then
       if pc = 61 then some (.iand, 62, 0, []) else none
      else
       if pc = 62 then some (.ifCond .ne 6, 65, 68, []) else none
     else
      if pc < 67 then
       if pc = 65 then some (.bipush (-4), 67, 0, []) else none
      else
       if pc = 67 then some (.ireturn, 68, 0, []) else none
   else
    if pc < 76 then
     if pc < 72 then
      if pc < 69 then
       if pc = 68 then some (.aload_n 0, 69, 0, []) else none
      else
       if pc = 69 then some (.getfield 19, 72, 10, [1, 1, 7]) else none
     else
      if pc < 73 then
       if pc = 72 then some (.iload_n 1, 73, 1, []) else none
      else
       if pc = 73 then some (.invokevirtual 149, 76, 48, [2, 0, 0, 2, 8, 0, 0]) else none
    else
     if pc < 78 then
      if pc < 77 then
       if pc = 76 then some (.astore_n 3, 77, 3, []) else none
      else
       if pc = 77 then some (.aload_n 3, 78, 3, []) else none
     else
      if pc < 81 then
       if pc = 78 then some (.ifnull 13, 81, 91, []) else none
      else
       if pc = 81 then some (.aload_n 3, 82, 3, []) else none
  else
   if pc < 96 then
    if pc < 90 then
     if pc < 85 then
      if pc = 82 then some (.getfield 156, 85, 5, [5, 0, 10]) else none
     else
      if pc < 88 then
       if pc = 85 then some (.ifCond .le 6, 88, 91, []) else none
      else
       if pc = 88 then some (.bipush (-10), 90, 0, []) else none
    else
     if pc < 92 then
      if pc < 91 then
       if pc = 90 then some (.ireturn, 91, 0, []) else none
      else
       if pc = 91 then some (.aload_n 0, 92, 0, []) else none
     else
      if pc < 95 then
       if pc = 92 then some (.getfield 19, 95, 10, [1, 1, 7]) else none
      else
       if pc = 95 then some (.aload_n 0, 96, 0, []) else none
   else
    if pc < 106 then
     if pc < 102 then
      if pc < 99 then
       if pc = 96 then some (.getfield 28, 99, 10, [2, 1, 7]) else none
      else
       if pc = 99 then some (.getfield 146, 102, 9, [5, 0, 7]) else none
     else
      if pc < 103 then
       if pc = 102 then some (.aload_n 0, 103, 0, []) else none
      else
       if pc = 103 then some (.getfield 28, 106, 10, [2, 1, 7]) else none
    else
     if pc < 112 then
      if pc < 109 then
       if pc = 106 then some (.getfield 139, 109, 9, [6, 1, 7]) else none
      else
       if pc = 109 then some (.invokevirtual 159, 112, 52, [3, 0, 0, 5, 8, 0, 0]) else none
     else
      if pc < 113 then
       if pc = 112 then some (.iload_n 1, 113, 1, []) else none
      else
       if pc = 113 then some (.ireturn, 114, 0, []) else none

def mc_X10_bits (pc : Nat) : Option mE :=
 if pc < 37 then
  if pc < 22 then
   if pc < 7 then
    if pc < 4 then
     if pc < 1 then
      if pc = 0 then some (.iload_n 1, 1, 1, []) else none
     else
      if pc = 1 then some (.ifCond .lt 9, 4, 10, []) else none
    else
     if pc < 5 then
      if pc = 4 then some (.iload_n 1, 5, 1, []) else none
     else
      if pc = 5 then some (.bipush 7, 7, 0, []) else none
   else
    if pc < 20 then
     if pc < 10 then
      if pc = 7 then some (.if_icmp .le 13, 10, 20, []) else none
     else
      if pc = 10 then some (.new 86, 13, 1, []) else none
    else
     if pc < 21 then
      if pc = 20 then some (.aload_n 0, 21, 0, []) else none
     else
      if pc = 21 then some (.iconst 0, 22, 0, []) else none
  else
   if pc < 28 then
    if pc < 26 then
     if pc < 23 then
      if pc = 22 then some (.iconst 1, 23, 0, []) else none
     else
      if pc = 23 then some (.invokevirtual 125, 26, 86, [3, 0, 0, 3, 11, 0, 0]) else none
    else
     if pc < 27 then
      if pc = 26 then some (.istore_n 2, 27, 2, []) else none
     else
      if pc = 27 then some (.iload_n 2, 28, 2, []) else none
   else
    if pc < 32 then
     if pc < 31 then
      if pc = 28 then some (.ifCond .ge 5, 31, 33, []) else none
     else
      if pc = 31 then some (.iload_n 2, 32, 2, []) else none
    else
     if pc < 33 then
      if pc = 32 then some (.ireturn, 33, 0, []) else none
     else
      if pc < 34 then
       if pc = 33 then some (.aload_n 0, 34, 0, []) else none
      else
       if pc = 34 then some (.getfield 19, 37, 10, [1, 1, 7]) else none
 else
  if pc < 55 then
   if pc < 43 then
    if pc < 41 then
     if pc < 38 then
      if pc = 37 then some (.iload_n 2, 38, 2, []) else none
     else
      if pc = 38 then some (.invokevirtual 149, 41, 48, [2, 0, 0, 2, 8, 0, 0]) else none
    else
     if pc < 42 then
      if pc = 41 then some (.astore_n 3, 42, 3, []) else none
     else
      if pc = 42 then some (.aload_n 3, 43, 3, []) else none
   else
    if pc < 47 then
     if pc < 46 then
      if pc = 43 then some (.ifnull 10, 46, 53, []) else none
     else
      if pc = 46 then some (.aload_n 3, 47, 3, []) else none
    else
     if pc < 50 then
      if pc = 47 then some (.getfield 165, 50, 5, [0, 0, 10]) else none
     else
      if pc < 53 then
       if pc = 50 then some (.ifCond .eq 6, 53, 56, []) else none
      else
       if pc = 53 then some (.bipush (-11), 55, 0, []) else none
  else
   if pc < 62 then
    if pc < 57 then
     if pc < 56 then
      if pc = 55 then some (.ireturn, 56, 0, []) else none
     else
      if pc = 56 then some (.aload_n 3, 57, 3, []) else none
    else
     if pc < 60 then
      if pc = 57 then some (.getfield 153, 60, 5, [6, 0, 10]) else none
     else
      if pc = 60 then some (.istore 4, 62, 4, []) else none
   else
    if pc < 64 then
     if pc < 63 then
      if pc = 62 then some (.aload_n 3, 63, 3, []) else none
     else
      if pc = 63 then some (.iload_n 1, 64, 1, []) else none
    else
     if pc < 67 then
      if pc = 64 then some (.putfield 153, 67, 5, [6, 0, 10]) else none
     else
      if pc < 69 then
       if pc = 67 then some (.iload 4, 69, 4, []) else none
      else
       if pc = 69 then some (.ireturn, 70, 0, []) else none

def mc_X10_go (pc : Nat) : Option mE :=
 if pc < 27 then
  if pc < 12 then
   if pc < 6 then
    if pc < 2 then
     if pc < 1 then
      if pc = 0 then some (.aload_n 0, 1, 0, []) else none
     else
      if pc = 1 then some (.iconst 0, 2, 0, []) else none
    else
     if pc < 3 then
      if pc = 2 then some (.iconst 1, 3, 0, []) else none
     else
      if pc = 3 then some (.invokevirtual 125, 6, 86, [3, 0, 0, 3, 11, 0, 0]) else none
   else
    if pc < 8 then
     if pc < 7 then
      if pc = 6 then some (.istore_n 1, 7, 1, []) else none
     else
      if pc = 7 then some (.iload_n 1, 8, 1, []) else none
    else
     if pc < 11 then
      if pc = 8 then some (.ifCond .ge 5, 11, 13, []) else none
     else
      if pc = 11 then some (.iload_n 1, 12, 1, []) else none
  else
   if pc < 18 then
    if pc < 14 then
     if pc < 13 then
      if pc = 12 then some (.ireturn, 13, 0, []) else none
     else
      if pc = 13 then some (.aload_n 0, 14, 0, []) else none
    else
     if pc < 17 then
      if pc = 14 then some (.getfield 19, 17, 10, [1, 1, 7]) else none
     else
      if pc = 17 then some (.iload_n 1, 18, 1, []) else none
   else
    if pc < 22 then
     if pc < 21 then
      if pc = 18 then some (.invokevirtual 149, 21, 48, [2, 0, 0, 2, 8, 0, 0]) else none
     else
      if pc = 21 then some (.astore_n 2, 22, 2, []) else none
    else
     if pc < 23 then
      if pc = 22 then some (.aload_n 2, 23, 2, []) else none
     else
      if pc < 26 then
       if pc = 23 then some (.ifnull 10, 26, 33, []) else none
      else
       if pc = 26 then some (.aload_n 2, 27, 2, []) else none
 else
  if pc < 42 then
   if pc < 36 then
    if pc < 33 then
     if pc < 30 then
      if pc = 27 then some (.getfield 165, 30, 5, [0, 0, 10]) else none
     else
      if pc = 30 then some (.ifCond .eq 6, 33, 36, []) else none
    else
     if pc < 35 then
      if pc = 33 then some (.bipush (-3), 35, 0, []) else none
     else
      if pc = 35 then some (.ireturn, 36, 0, []) else none
   else
    if pc < 40 then
     if pc < 37 then
      if pc = 36 then some (.aload_n 2, 37, 2, []) else none
     else
      if pc = 37 then some (.getfield 153, 40, 5, [6, 0, 10]) else none
    else
     if pc < 41 then
      if pc = 40 then some (.iconst 1, 41, 0, []) else none
     else
      if pc = 41 then some (.iand, 42, 0, []) else none
  else
   if pc < 49 then
    if pc < 47 then
     if pc < 45 then
      if pc = 42 then some (.ifCond .ne 6, 45, 48, []) else none
     else
      if pc = 45 then some (.bipush (-4), 47, 0, []) else none
    else
     if pc < 48 then
      if pc = 47 then some (.ireturn, 48, 0, []) else none
     else
      if pc = 48 then some (.aload_n 0, 49, 0, []) else none
   else
    if pc < 53 then
     if pc < 52 then
      if pc = 49 then some (.getfield 19, 52, 10, [1, 1, 7]) else none
     else
      if pc = 52 then some (.iload_n 1, 53, 1, []) else none
    else
     if pc < 56 then
      if pc = 53 then some (.putfield 143, 56, 7, [2, 0, 3]) else none
     else
      if pc < 57 then
       if pc = 56 then some (.iload_n 1, 57, 1, []) else none
      else
       if pc = 57 then some (.ireturn, 58, 0, []) else none

def mc_X10_node (pc : Nat) : Option mE :=
 if pc < 2 then
  if pc < 1 then
   if pc = 0 then some (.aload_n 0, 1, 0, []) else none
  else
   if pc = 1 then some (.iconst 0, 2, 0, []) else none
 else
  if pc < 3 then
   if pc = 2 then some (.iload_n 1, 3, 1, []) else none
  else
   if pc < 6 then
    if pc = 3 then some (.invokevirtual 125, 6, 86, [3, 0, 0, 3, 11, 0, 0]) else none
   else
    if pc = 6 then some (.ireturn, 7, 0, []) else none

def mc_X10_real (pc : Nat) : Option mE :=
 if pc < 59 then
  if pc < 23 then
   if pc < 11 then
    if pc < 3 then
     if pc < 1 then
      if pc = 0 then some (.aload_n 0, 1, 0, []) else none
     else
      if pc < 2 then
       if pc = 1 then some (.iconst 0, 2, 0, []) else none
      else
       if pc = 2 then some (.iconst 1, 3, 0, []) else none
    else
     if pc < 7 then
      if pc < 6 then
       if pc = 3 then some (.invokevirtual 125, 6, 86, [3, 0, 0, 3, 11, 0, 0]) else none
      else
       if pc = 6 then some (.istore_n 1, 7, 1, []) else none
     else
      if pc < 8 then
       if pc = 7 then some (.iload_n 1, 8, 1, []) else none
      else
       if pc = 8 then some (.ifCond .ge 5, 11, 13, []) else none
   else
    if pc < 17 then
     if pc < 13 then
      if pc < 12 then
       if pc = 11 then some (.iload_n 1, 12, 1, []) else none
      else
       if pc = 12 then some (.ireturn, 13, 0, []) else none
     else
      if pc < 14 then
       if pc = 13 then some (.aload_n 0, 14, 0, []) else none
      else
       if pc = 14 then some (.getfield 35, 17, 10, [3, 1, 7]) else none
    else
     if pc < 21 then
      if pc < 20 then
       if pc = 17 then some (.invokevirtual 168, 20, 44, [1, 0, 0, 1, 7, 0, 0]) else none
      else
       if pc = 20 then some (.iload_n 1, 21, 1, []) else none
     else
      if pc < 22 then
       if pc = 21 then some (.istore_n 2, 22, 2, []) else none
      else
       if pc = 22 then some (.aload_n 0, 23, 0, []) else none
  else
   if pc < 43 then
    if pc < 33 then
     if pc < 29 then
      if pc < 26 then
       if pc = 23 then some (.getfield 28, 26, 10, [2, 1, 7]) else none
      else
       if pc = 26 then some (.getfield 139, 29, 9, [6, 1, 7]) else none
     else
      if pc < 32 then
       if pc = 29 then some (.ifnull 25, 32, 54, []) else none
      else
       if pc = 32 then some (.aload_n 0, 33, 0, []) else none
    else
     if pc < 37 then
      if pc < 36 then
       if pc = 33 then some (.getfield 35, 36, 10, [3, 1, 7]) else none
      else
       if pc = 36 then some (.aload_n 0, 37, 0, []) else none
     else
      if pc < 40 then
       if pc = 37 then some (.getfield 28, 40, 10, [2, 1, 7]) else none
      else
       if pc = 40 then some (.getfield 139, 43, 9, [6, 1, 7]) else none
   else
    if pc < 53 then
     if pc < 47 then
      if pc < 46 then
       if pc = 43 then some (.invokevirtual 171, 46, 45, [2, 0, 0, 3, 7, 0, 0]) else none
      else
       if pc = 46 then some (.aload_n 0, 47, 0, []) else none
     else
      if pc < 50 then
       if pc = 47 then some (.getfield 28, 50, 10, [2, 1, 7]) else none
      else
       if pc = 50 then some (.getfield 146, 53, 9, [5, 0, 7]) else none
    else
     if pc < 55 then
      if pc < 54 then
       if pc = 53 then some (.istore_n 2, 54, 2, []) else none
      else
       if pc = 54 then some (.iconst 0, 55, 0, []) else none
     else
      if pc < 57 then
       if pc = 55 then some (.istore_n 3, 100056, 3, []) else none
      else
       if pc = 57 then some (.bipush 48, 59, 0, []) else none
 else
  if pc < 96 then
   if pc < 76 then
    if pc < 67 then
     if pc < 63 then
      if pc < 62 then
       if pc = 59 then some (.if_icmp .ge 57, 62, 116, []) else none
      else
       if pc = 62 then some (.iload_n 2, 63, 2, []) else none
     else
      if pc < 66 then
       if pc = 63 then some (.ifCond .eq 53, 66, 116, []) else none
      else
       if pc = 66 then some (.aload_n 0, 67, 0, []) else none
    else
     if pc < 71 then
      if pc < 70 then
       if pc = 67 then some (.getfield 19, 70, 10, [1, 1, 7]) else none
      else
       if pc = 70 then some (.iload_n 2, 71, 2, []) else none
     else
      if pc < 74 then
       if pc = 71 then some (.invokevirtual 149, 74, 48, [2, 0, 0, 2, 8, 0, 0]) else none
      else
       if pc = 74 then some (.astore 4, 76, 4, []) else none
   else
    if pc < 86 then
     if pc < 81 then
      if pc < 78 then
       if pc = 76 then some (.aload 4, 78, 4, []) else none
      else
       if pc = 78 then some (.ifnull 38, 81, 116, []) else none
     else
      if pc < 83 then
       if pc = 81 then some (.aload 4, 83, 4, []) else none
      else
       if pc = 83 then some (.getfield 175, 86, 5, [9, 1, 10]) else none
    else
     if pc < 92 then
      if pc < 89 then
       if pc = 86 then some (.ifnonnull 6, 89, 92, []) else none
      else
       if pc = 89 then some (.goto 27, 92, 116, []) else none
     else
      if pc < 93 then
       if pc = 92 then some (.aload_n 0, 93, 0, []) else none
      else
       if pc = 93 then some (.getfield 35, 96, 10, [3, 1, 7]) else none
  else
   if pc < 116 then
    if pc < 106 then
     if pc < 101 then
      if pc < 98 then
       if pc = 96 then some (.aload 4, 98, 4, []) else none
      else
       if pc = 98 then some (.getfield 175, 101, 5, [9, 1, 10]) else none
     else
      if pc < 104 then
       if pc = 101 then some (.invokevirtual 171, 104, 45, [2, 0, 0, 3, 7, 0, 0]) else none
      else
       if pc = 104 then some (.aload 4, 106, 4, []) else none
    else
     if pc < 110 then
      if pc < 109 then
       if pc = 106 then some (.getfield 178, 109, 5, [8, 0, 10]) else none
      else
       if pc = 109 then some (.istore_n 2, 110, 2, []) else none
     else
      if pc < 113 then
       if pc = 110 then some (.iinc 3 1, 113, 3, []) else none
      else
       if pc = 113 then some (.goto (-57), 116, 100056, []) else none
   else
    if pc < 124 then
     if pc < 120 then
      if pc < 117 then
       if pc = 116 then some (.aload_n 0, 117, 0, []) else none
      else
       if pc = 117 then some (.getfield 35, 120, 10, [3, 1, 7]) else none
     else
      if pc < 123 then
       if pc = 120 then some (.invokevirtual 181, 123, 46, [1, 0, 0, 1, 7, 0, 0]) else none
      else
       if pc = 123 then some (.aload_n 0, 124, 0, []) else none
    else
     if pc < 130 then
      if pc < 127 then
       if pc = 124 then some (.getfield 35, 127, 10, [3, 1, 7]) else none
      else
       if pc = 127 then some (.getfield 184, 130, 6, [1, 0, 3]) else none
     else
      if pc < 100056 then
       if pc = 130 then some (.ireturn, 131, 0, []) else none
      else
       if pc = 100056 then some (.iload_n 3, 57, 3, []) else none

def mc_X10_find (pc : Nat) : Option mE :=
 if pc < 94 then
  if pc < 51 then
   if pc < 30 then
    if pc < 18 then
     if pc < 4 then
      if pc < 1 then
       if pc = 0 then some (.iload_n 1, 1, 1, []) else none
      else
       if pc = 1 then some (.invokestatic 82, 4, 85, [1, 0, 0, 1]) else none
     else
      if pc < 7 then
       if pc = 4 then some (.ifCond .eq 13, 7, 17, []) else none
      else
       if pc < 17 then
        if pc = 7 then some (.new 86, 10, 1, []) else none
       else
        if pc = 17 then some (.aload_n 0, 18, 0, []) else none
    else
     if pc < 25 then
      if pc < 21 then
       if pc = 18 then some (.getfield 35, 21, 10, [3, 1, 7]) else none
      else
       if pc < 22 then
        if pc = 21 then some (.iconst 0, 22, 0, []) else none
       else
        if pc = 22 then some (.putfield 184, 25, 6, [1, 0, 3]) else none
     else
      if pc < 26 then
       if pc = 25 then some (.aload_n 0, 26, 0, []) else none
      else
       if pc < 29 then
        if pc = 26 then some (.getfield 53, 29, 10, [5, 1, 7]) else none
       else
        if pc = 29 then some (.iload_n 1, 30, 1, []) else none
   else
    if pc < 43 then
     if pc < 34 then
      if pc < 33 then
       if pc = 30 then some (.invokevirtual 187, 33, 12, [2, 0, 0, 2, 3, 0, 0]) else none
      else
       if pc = 33 then some (.aload_n 0, 34, 0, []) else none
     else
      if pc < 37 then
       if pc = 34 then some (.getfield 12, 37, 10, [0, 1, 7]) else none
      else
       if pc < 40 then
        if pc = 37 then some (.invokevirtual 190, 40, 34, [1, 0, 0, 1, 5, 0, 0]) else none
       else
        if pc = 40 then some (.ifCond .eq 7, 43, 47, []) else none
    else
     if pc < 48 then
      if pc < 44 then
       if pc = 43 then some (.iconst 1, 44, 0, []) else none
      else
       if pc < 47 then
        if pc = 44 then some (.goto 4, 47, 48, []) else none
       else
        if pc = 47 then some (.iconst 0, 48, 0, []) else none
     else
      if pc < 49 then
       if pc = 48 then some (.istore_n 2, 49, 2, []) else none
      else
       if pc < 50 then
        if pc = 49 then some (.aload_n 0, 50, 0, []) else none
       else
        if pc = 50 then some (.aload_n 0, 51, 0, []) else none
  else
   if pc < 73 then
    if pc < 62 then
     if pc < 55 then
      if pc < 54 then
       if pc = 51 then some (.getfield 44, 54, 10, [4, 1, 7]) else none
      else
       if pc = 54 then some (.iload_n 2, 55, 2, []) else none
     else
      if pc < 58 then
       if pc = 55 then some (.invokevirtual 194, 58, 4, [2, 0, 0, 6, 2, 0, 0]) else none
      else
       if pc < 61 then
        if pc = 58 then some (.putfield 57, 61, 10, [6, 0, 7]) else none
       else
        if pc = 61 then some (.aload_n 0, 62, 0, []) else none
    else
     if pc < 69 then
      if pc < 65 then
       if pc = 62 then some (.getfield 57, 65, 10, [6, 0, 7]) else none
      else
       if pc < 66 then
        if pc = 65 then some (.iconst (-1), 66, 0, []) else none
       else
        if pc = 66 then some (.if_icmp .eq 6, 69, 72, []) else none
     else
      if pc < 71 then
       if pc = 69 then some (.bipush (-12), 71, 0, []) else none
      else
       if pc < 72 then
        if pc = 71 then some (.ireturn, 72, 0, []) else none
       else
        if pc = 72 then some (.aload_n 0, 73, 0, []) else none
   else
    if pc < 82 then
     if pc < 77 then
      if pc < 76 then
       if pc = 73 then some (.invokevirtual 197, 76, 89, [1, 0, 0, 4, 11, 0, 0]) else none
      else
       if pc = 76 then some (.istore_n 3, 77, 3, []) else none
     else
      if pc < 78 then
       if pc = 77 then some (.iload_n 3, 78, 3, []) else none
      else
       if pc < 81 then
        if pc = 78 then some (.ifCond .eq 5, 81, 83, []) else none
       else
        if pc = 81 then some (.iload_n 3, 82, 3, []) else none
    else
     if pc < 87 then
      if pc < 83 then
       if pc = 82 then some (.ireturn, 83, 0, []) else none
      else
       if pc < 84 then
        if pc = 83 then some (.iload_n 2, 84, 2, []) else none
       else
        if pc = 84 then some (.ifCond .ne 49, 87, 133, []) else none
     else
      if pc < 88 then
       if pc = 87 then some (.aload_n 0, 88, 0, []) else none
      else
       if pc < 91 then
        if pc = 88 then some (.getfield 28, 91, 10, [2, 1, 7]) else none
       else
        if pc = 91 then some (.getstatic 201, 94, 0, []) else none
 else
  if pc < 136 then
   if pc < 116 then
    if pc < 103 then
     if pc < 98 then
      if pc < 95 then
       if pc = 94 then some (.iconst 0, 95, 0, []) else none
      else
       if pc = 95 then some (.getstatic 201, 98, 0, []) else none
     else
      if pc < 99 then
       if pc = 98 then some (.arraylength, 99, 0, []) else none
      else
       if pc < 100 then
        if pc = 99 then some (.iconst 0, 100, 0, []) else none
       else
        if pc = 100 then some (.invokevirtual 204, 103, 64, [5, 0, 0, 9, 10, 0, 0]) else none
    else
     if pc < 110 then
      if pc < 105 then
       if pc = 103 then some (.istore 4, 105, 4, []) else none
      else
       if pc < 107 then
        if pc = 105 then some (.iload 4, 107, 4, []) else none
       else
        if pc = 107 then some (.ifCond .ge 8, 110, 115, []) else none
     else
      if pc < 112 then
       if pc = 110 then some (.iload 4, 112, 4, []) else none
      else
       if pc < 115 then
        if pc = 112 then some (.goto 20, 115, 132, []) else none
       else
        if pc = 115 then some (.aload_n 0, 116, 0, []) else none
   else
    if pc < 128 then
     if pc < 121 then
      if pc < 119 then
       if pc = 116 then some (.getfield 53, 119, 10, [5, 1, 7]) else none
      else
       if pc = 119 then some (.iload 4, 121, 4, []) else none
     else
      if pc < 124 then
       if pc = 121 then some (.getstatic 201, 124, 0, []) else none
      else
       if pc < 125 then
        if pc = 124 then some (.iconst 0, 125, 0, []) else none
       else
        if pc = 125 then some (.getstatic 201, 128, 0, []) else none
    else
     if pc < 133 then
      if pc < 129 then
       if pc = 128 then some (.arraylength, 129, 0, []) else none
      else
       if pc < 132 then
        if pc = 129 then some (.invokevirtual 208, 132, 13, [5, 0, 0, 8, 3, 0, 0]) else none
       else
        if pc = 132 then some (.ireturn, 133, 0, []) else none
     else
      if pc < 134 then
       if pc = 133 then some (.aload_n 0, 134, 0, []) else none
      else
       if pc < 135 then
        if pc = 134 then some (.iconst 0, 135, 0, []) else none
       else
        if pc = 135 then some (.iconst 0, 136, 0, []) else none
  else
   if pc < 161 then
    if pc < 148 then
     if pc < 141 then
      if pc < 139 then
       if pc = 136 then some (.invokevirtual 125, 139, 86, [3, 0, 0, 3, 11, 0, 0]) else none
      else
       if pc = 139 then some (.istore 4, 141, 4, []) else none
     else
      if pc < 143 then
       if pc = 141 then some (.iload 4, 143, 4, []) else none
      else
       if pc < 146 then
        if pc = 143 then some (.ifCond .ge 8, 146, 151, []) else none
       else
        if pc = 146 then some (.iload 4, 148, 4, []) else none
    else
     if pc < 155 then
      if pc < 151 then
       if pc = 148 then some (.goto 35, 151, 183, []) else none
      else
       if pc < 152 then
        if pc = 151 then some (.aload_n 0, 152, 0, []) else none
       else
        if pc = 152 then some (.getfield 53, 155, 10, [5, 1, 7]) else none
     else
      if pc < 157 then
       if pc = 155 then some (.iload 4, 157, 4, []) else none
      else
       if pc < 158 then
        if pc = 157 then some (.aload_n 0, 158, 0, []) else none
       else
        if pc = 158 then some (.getfield 12, 161, 10, [0, 1, 7]) else none
   else
    if pc < 172 then
     if pc < 165 then
      if pc < 164 then
       if pc = 161 then some (.getfield 109, 164, 4, [0, 1, 5]) else none
      else
       if pc = 164 then some (.aload_n 0, 165, 0, []) else none
     else
      if pc < 168 then
       if pc = 165 then some (.getfield 12, 168, 10, [0, 1, 7]) else none
      else
       if pc < 169 then
        if pc = 168 then some (.iconst 0, 169, 0, []) else none
       else
        if pc = 169 then some (.invokevirtual 113, 172, 29, [2, 0, 0, 2, 5, 0, 0]) else none
    else
     if pc < 177 then
      if pc < 173 then
       if pc = 172 then some (.aload_n 0, 173, 0, []) else none
      else
       if pc < 176 then
        if pc = 173 then some (.getfield 12, 176, 10, [0, 1, 7]) else none
       else
        if pc = 176 then some (.iconst 0, 177, 0, []) else none
     else
      if pc < 180 then
       if pc = 177 then some (.invokevirtual 212, 180, 30, [2, 0, 0, 2, 5, 0, 0]) else none
      else
       if pc < 183 then
        if pc = 180 then some (.invokevirtual 208, 183, 13, [5, 0, 0, 8, 3, 0, 0]) else none
       else
        if pc = 183 then some (.ireturn, 184, 0, []) else none

def mc_X10_place (pc : Nat) : Option mE :=
 if pc < 1 then
  if pc = 0 then some (.aload_n 0, 1, 0, []) else none
 else
  if pc < 4 then
   if pc = 1 then some (.getfield 57, 4, 10, [6, 0, 7]) else none
  else
   if pc = 4 then some (.ireturn, 5, 0, []) else none

def mc_X10_output (pc : Nat) : Option mE :=
 if pc < 19 then
  if pc < 6 then
   if pc < 4 then
    if pc < 1 then
     if pc = 0 then some (.iload_n 1, 1, 1, []) else none
    else
     if pc = 1 then some (.ifCond .lt 33, 4, 34, []) else none
   else
    if pc < 5 then
     if pc = 4 then some (.iload_n 1, 5, 1, []) else none
    else
     if pc = 5 then some (.aload_n 0, 6, 0, []) else none
  else
   if pc < 12 then
    if pc < 9 then
     if pc = 6 then some (.getfield 35, 9, 10, [3, 1, 7]) else none
    else
     if pc = 9 then some (.getfield 184, 12, 6, [1, 0, 3]) else none
   else
    if pc < 15 then
     if pc = 12 then some (.if_icmp .ge 22, 15, 34, []) else none
    else
     if pc < 16 then
      if pc = 15 then some (.iload_n 1, 16, 1, []) else none
     else
      if pc = 16 then some (.sipush 1500, 19, 0, []) else none
 else
  if pc < 29 then
   if pc < 23 then
    if pc < 22 then
     if pc = 19 then some (.if_icmp .ge 15, 22, 34, []) else none
    else
     if pc = 22 then some (.aload_n 0, 23, 0, []) else none
   else
    if pc < 26 then
     if pc = 23 then some (.getfield 35, 26, 10, [3, 1, 7]) else none
    else
     if pc = 26 then some (.getfield 215, 29, 6, [0, 1, 3]) else none
  else
   if pc < 31 then
    if pc < 30 then
     if pc = 29 then some (.iload_n 1, 30, 1, []) else none
    else
     if pc = 30 then some (.caload, 31, 0, []) else none
   else
    if pc < 34 then
     if pc = 31 then some (.goto 5, 34, 36, []) else none
    else
     if pc < 36 then
      if pc = 34 then some (.bipush 32, 36, 0, []) else none
     else
      if pc = 36 then some (.ireturn, 37, 3, []) else none

def mc_X10_tell (pc : Nat) : Option mE :=
 if pc < 79 then
  if pc < 24 then
   if pc < 8 then
    if pc < 4 then
     if pc < 1 then
      if pc = 0 then some (.aload_n 0, 1, 0, []) else none
     else
      if pc = 1 then some (.getfield 19, 4, 10, [1, 1, 7]) else none
    else
     if pc < 5 then
      if pc = 4 then some (.iload_n 1, 5, 1, []) else none
     else
      if pc = 5 then some (.invokevirtual 149, 8, 48, [2, 0, 0, 2, 8, 0, 0]) else none
   else
    if pc < 10 then
     if pc < 9 then
      if pc = 8 then some (.astore_n 3, 9, 3, []) else none
     else
      if pc = 9 then some (.aload_n 3, 10, 3, []) else none
    else
     if pc < 13 then
      if pc = 10 then some (.ifnonnull 13, 13, 23, []) else none
     else
      if pc < 23 then
       if pc = 13 then some (.new 216, 16, 2, []) else none
      else
       if pc = 23 then some (.iload_n 2, 24, 2, []) else none
  else
   if pc < 70 then
    if pc < 65 then
     if pc < 64 then
      if pc = 24 then some (.tableswitch 86 0 5 #[40, 45, 50, 55, 60, 81], 64, 110, [64, 69, 74, 79, 84, 105]) else none
     else
      if pc = 64 then some (.aload_n 3, 65, 3, []) else none
    else
     if pc < 68 then
      if pc = 65 then some (.getfield 165, 68, 5, [0, 0, 10]) else none
     else
      if pc < 69 then
       if pc = 68 then some (.ireturn, 69, 0, []) else none
      else
       if pc = 69 then some (.aload_n 3, 70, 3, []) else none
   else
    if pc < 74 then
     if pc < 73 then
      if pc = 70 then some (.getfield 221, 73, 5, [1, 0, 10]) else none
     else
      if pc = 73 then some (.ireturn, 74, 0, []) else none
    else
     if pc < 75 then
      if pc = 74 then some (.aload_n 3, 75, 3, []) else none
     else
      if pc < 78 then
       if pc = 75 then some (.getfield 224, 78, 5, [2, 0, 10]) else none
      else
       if pc = 78 then some (.ireturn, 79, 0, []) else none
 else
  if pc < 96 then
   if pc < 85 then
    if pc < 83 then
     if pc < 80 then
      if pc = 79 then some (.aload_n 3, 80, 3, []) else none
     else
      if pc = 80 then some (.getfield 227, 83, 5, [7, 0, 10]) else none
    else
     if pc < 84 then
      if pc = 83 then some (.ireturn, 84, 0, []) else none
     else
      if pc = 84 then some (.aload_n 3, 85, 3, []) else none
   else
    if pc < 89 then
     if pc < 88 then
      if pc = 85 then some (.getfield 165, 88, 5, [0, 0, 10]) else none
     else
      if pc = 88 then some (.iconst 2, 89, 0, []) else none
    else
     if pc < 92 then
      if pc = 89 then some (.if_icmp .ne 11, 92, 100, []) else none
     else
      if pc < 93 then
       if pc = 92 then some (.aload_n 3, 93, 3, []) else none
      else
       if pc = 93 then some (.getfield 116, 96, 5, [3, 1, 10]) else none
  else
   if pc < 105 then
    if pc < 100 then
     if pc < 97 then
      if pc = 96 then some (.arraylength, 97, 0, []) else none
     else
      if pc = 97 then some (.goto 7, 100, 104, []) else none
    else
     if pc < 101 then
      if pc = 100 then some (.aload_n 3, 101, 3, []) else none
     else
      if pc < 104 then
       if pc = 101 then some (.getfield 156, 104, 5, [5, 0, 10]) else none
      else
       if pc = 104 then some (.ireturn, 105, 0, []) else none
   else
    if pc < 109 then
     if pc < 106 then
      if pc = 105 then some (.aload_n 3, 106, 3, []) else none
     else
      if pc = 106 then some (.getfield 153, 109, 5, [6, 0, 10]) else none
    else
     if pc < 110 then
      if pc = 109 then some (.ireturn, 110, 0, []) else none
     else
      if pc < 111 then
       if pc = 110 then some (.iconst (-1), 111, 0, []) else none
      else
       if pc = 111 then some (.ireturn, 112, 0, []) else none

def mc_X10_count (pc : Nat) : Option mE :=
 if pc < 40 then
  if pc < 32 then
   if pc < 28 then
    if pc < 1 then
     if pc = 0 then some (.iload_n 1, 1, 1, []) else none
    else
     if pc = 1 then some (.tableswitch 51 0 2 #[27, 35, 43], 28, 52, [28, 36, 44]) else none
   else
    if pc < 29 then
     if pc = 28 then some (.aload_n 0, 29, 0, []) else none
    else
     if pc = 29 then some (.getfield 19, 32, 10, [1, 1, 7]) else none
  else
   if pc < 36 then
    if pc < 35 then
     if pc = 32 then some (.getfield 230, 35, 7, [1, 0, 3]) else none
    else
     if pc = 35 then some (.ireturn, 36, 0, []) else none
   else
    if pc < 37 then
     if pc = 36 then some (.aload_n 0, 37, 0, []) else none
    else
     if pc = 37 then some (.getfield 53, 40, 10, [5, 1, 7]) else none
 else
  if pc < 48 then
   if pc < 44 then
    if pc < 43 then
     if pc = 40 then some (.getfield 233, 43, 2, [8, 0, 14]) else none
    else
     if pc = 43 then some (.ireturn, 44, 0, []) else none
   else
    if pc < 45 then
     if pc = 44 then some (.aload_n 0, 45, 0, []) else none
    else
     if pc = 45 then some (.getfield 35, 48, 10, [3, 1, 7]) else none
  else
   if pc < 52 then
    if pc < 51 then
     if pc = 48 then some (.getfield 184, 51, 6, [1, 0, 3]) else none
    else
     if pc = 51 then some (.ireturn, 52, 0, []) else none
   else
    if pc < 53 then
     if pc = 52 then some (.iconst (-1), 53, 0, []) else none
    else
     if pc = 53 then some (.ireturn, 54, 0, []) else none

def mc_X10_isOutOfBounds (pc : Nat) : Option mE :=
 if pc < 7 then
  if pc < 4 then
   if pc < 1 then
    if pc = 0 then some (.iload_n 0, 1, 0, []) else none
   else
    if pc = 1 then some (.ifCond .lt 9, 4, 10, []) else none
  else
   if pc < 5 then
    if pc = 4 then some (.iload_n 0, 5, 0, []) else none
   else
    if pc = 5 then some (.ldc 236, 7, 0, [999999]) else none
 else
  if pc < 11 then
   if pc < 10 then
    if pc = 7 then some (.if_icmp .le 7, 10, 14, []) else none
   else
    if pc = 10 then some (.iconst 1, 11, 0, []) else none
  else
   if pc < 14 then
    if pc = 11 then some (.goto 4, 14, 15, []) else none
   else
    if pc < 15 then
     if pc = 14 then some (.iconst 0, 15, 0, []) else none
    else
     if pc = 15 then some (.ireturn, 16, 2, []) else none

def mc_X10_nodeOfWord (pc : Nat) : Option mE :=
 if pc < 22 then
  if pc < 11 then
   if pc < 2 then
    if pc < 1 then
     if pc = 0 then some (.iload_n 1, 1, 1, []) else none
    else
     if pc = 1 then some (.aload_n 0, 2, 0, []) else none
   else
    if pc < 5 then
     if pc = 2 then some (.getfield 12, 5, 10, [0, 1, 7]) else none
    else
     if pc < 8 then
      if pc = 5 then some (.getfield 237, 8, 4, [4, 0, 5]) else none
     else
      if pc = 8 then some (.if_icmp .lt 6, 11, 14, []) else none
  else
   if pc < 15 then
    if pc < 13 then
     if pc = 11 then some (.bipush (-2), 13, 0, []) else none
    else
     if pc < 14 then
      if pc = 13 then some (.ireturn, 14, 0, []) else none
     else
      if pc = 14 then some (.aload_n 0, 15, 0, []) else none
   else
    if pc < 18 then
     if pc = 15 then some (.getfield 28, 18, 10, [2, 1, 7]) else none
    else
     if pc < 19 then
      if pc = 18 then some (.aload_n 0, 19, 0, []) else none
     else
      if pc = 19 then some (.getfield 12, 22, 10, [0, 1, 7]) else none
 else
  if pc < 34 then
   if pc < 29 then
    if pc < 25 then
     if pc = 22 then some (.getfield 109, 25, 4, [0, 1, 5]) else none
    else
     if pc < 26 then
      if pc = 25 then some (.aload_n 0, 26, 0, []) else none
     else
      if pc = 26 then some (.getfield 12, 29, 10, [0, 1, 7]) else none
   else
    if pc < 30 then
     if pc = 29 then some (.iload_n 1, 30, 1, []) else none
    else
     if pc < 33 then
      if pc = 30 then some (.invokevirtual 113, 33, 29, [2, 0, 0, 2, 5, 0, 0]) else none
     else
      if pc = 33 then some (.aload_n 0, 34, 0, []) else none
  else
   if pc < 41 then
    if pc < 37 then
     if pc = 34 then some (.getfield 12, 37, 10, [0, 1, 7]) else none
    else
     if pc < 38 then
      if pc = 37 then some (.iload_n 1, 38, 1, []) else none
     else
      if pc = 38 then some (.invokevirtual 212, 41, 30, [2, 0, 0, 2, 5, 0, 0]) else none
   else
    if pc < 42 then
     if pc = 41 then some (.iload_n 2, 42, 2, []) else none
    else
     if pc < 45 then
      if pc = 42 then some (.invokevirtual 204, 45, 64, [5, 0, 0, 9, 10, 0, 0]) else none
     else
      if pc = 45 then some (.ireturn, 46, 0, []) else none

def mc_X10_newPlace (pc : Nat) : Option mE :=
 if pc < 103 then
  if pc < 51 then
   if pc < 23 then
    if pc < 13 then
     if pc < 5 then
      if pc < 1 then
       if pc = 0 then some (.iload_n 1, 1, 1, []) else none
      else
       if pc < 2 then
        if pc = 1 then some (.aload_n 0, 2, 0, []) else none
       else
        if pc = 2 then some (.getfield 12, 5, 10, [0, 1, 7]) else none
     else
      if pc < 8 then
       if pc = 5 then some (.getfield 237, 8, 4, [4, 0, 5]) else none
      else
       if pc < 11 then
        if pc = 8 then some (.if_icmp .lt 6, 11, 14, []) else none
       else
        if pc = 11 then some (.bipush (-2), 13, 0, []) else none
    else
     if pc < 18 then
      if pc < 14 then
       if pc = 13 then some (.ireturn, 14, 0, []) else none
      else
       if pc < 15 then
        if pc = 14 then some (.aload_n 0, 15, 0, []) else none
       else
        if pc = 15 then some (.getfield 12, 18, 10, [0, 1, 7]) else none
     else
      if pc < 19 then
       if pc = 18 then some (.iload_n 1, 19, 1, []) else none
      else
       if pc < 22 then
        if pc = 19 then some (.invokevirtual 240, 22, 36, [2, 0, 0, 4, 5, 0, 0]) else none
       else
        if pc = 22 then some (.istore_n 3, 23, 3, []) else none
   else
    if pc < 34 then
     if pc < 28 then
      if pc < 24 then
       if pc = 23 then some (.aload_n 0, 24, 0, []) else none
      else
       if pc < 27 then
        if pc = 24 then some (.getfield 12, 27, 10, [0, 1, 7]) else none
       else
        if pc = 27 then some (.iload_n 1, 28, 1, []) else none
     else
      if pc < 31 then
       if pc = 28 then some (.invokevirtual 243, 31, 35, [2, 0, 0, 4, 5, 0, 0]) else none
      else
       if pc < 33 then
        if pc = 31 then some (.istore 4, 33, 4, []) else none
       else
        if pc = 33 then some (.aload_n 0, 34, 0, []) else none
    else
     if pc < 41 then
      if pc < 37 then
       if pc = 34 then some (.getfield 12, 37, 10, [0, 1, 7]) else none
      else
       if pc < 40 then
        if pc = 37 then some (.getfield 109, 40, 4, [0, 1, 5]) else none
       else
        if pc = 40 then some (.iload_n 3, 41, 3, []) else none
     else
      if pc < 46 then
       if pc < 43 then
        if pc = 41 then some (.iload 4, 43, 4, []) else none
       else
        if pc = 43 then some (.invokestatic 246, 46, 1, [3, 0, 0, 8]) else none
      else
       if pc < 49 then
        if pc = 46 then some (.ifCond .ne 6, 49, 52, []) else none
       else
        if pc = 49 then some (.bipush (-6), 51, 0, []) else none
  else
   if pc < 75 then
    if pc < 62 then
     if pc < 56 then
      if pc < 52 then
       if pc = 51 then some (.ireturn, 52, 0, []) else none
      else
       if pc < 53 then
        if pc = 52 then some (.aload_n 0, 53, 0, []) else none
       else
        if pc = 53 then some (.getfield 12, 56, 10, [0, 1, 7]) else none
     else
      if pc < 57 then
       if pc = 56 then some (.iload_n 1, 57, 1, []) else none
      else
       if pc < 60 then
        if pc = 57 then some (.invokevirtual 113, 60, 29, [2, 0, 0, 2, 5, 0, 0]) else none
       else
        if pc = 60 then some (.istore 5, 62, 5, []) else none
    else
     if pc < 68 then
      if pc < 63 then
       if pc = 62 then some (.iload_n 3, 63, 3, []) else none
      else
       if pc < 65 then
        if pc = 63 then some (.iload 5, 65, 5, []) else none
       else
        if pc = 65 then some (.if_icmp .ne 13, 68, 78, []) else none
     else
      if pc < 69 then
       if pc = 68 then some (.aload_n 0, 69, 0, []) else none
      else
       if pc < 72 then
        if pc = 69 then some (.getfield 19, 72, 10, [1, 1, 7]) else none
       else
        if pc = 72 then some (.getfield 143, 75, 7, [2, 0, 3]) else none
   else
    if pc < 89 then
     if pc < 82 then
      if pc < 78 then
       if pc = 75 then some (.goto 21, 78, 96, []) else none
      else
       if pc < 79 then
        if pc = 78 then some (.aload_n 0, 79, 0, []) else none
       else
        if pc = 79 then some (.getfield 28, 82, 10, [2, 1, 7]) else none
     else
      if pc < 83 then
       if pc = 82 then some (.aload_n 0, 83, 0, []) else none
      else
       if pc < 86 then
        if pc = 83 then some (.getfield 12, 86, 10, [0, 1, 7]) else none
       else
        if pc = 86 then some (.getfield 109, 89, 4, [0, 1, 5]) else none
    else
     if pc < 93 then
      if pc < 91 then
       if pc = 89 then some (.iload 5, 91, 5, []) else none
      else
       if pc < 92 then
        if pc = 91 then some (.iload_n 3, 92, 3, []) else none
       else
        if pc = 92 then some (.iconst 1, 93, 0, []) else none
     else
      if pc < 98 then
       if pc < 96 then
        if pc = 93 then some (.invokevirtual 204, 96, 64, [5, 0, 0, 9, 10, 0, 0]) else none
       else
        if pc = 96 then some (.istore 6, 98, 6, []) else none
      else
       if pc < 100 then
        if pc = 98 then some (.iload 6, 100, 6, []) else none
       else
        if pc = 100 then some (.ifCond .ge 6, 103, 106, []) else none
 else
  if pc < 155 then
   if pc < 130 then
    if pc < 115 then
     if pc < 107 then
      if pc < 105 then
       if pc = 103 then some (.iload 6, 105, 6, []) else none
      else
       if pc < 106 then
        if pc = 105 then some (.ireturn, 106, 0, []) else none
       else
        if pc = 106 then some (.aload_n 0, 107, 0, []) else none
     else
      if pc < 110 then
       if pc = 107 then some (.getfield 19, 110, 10, [1, 1, 7]) else none
      else
       if pc < 112 then
        if pc = 110 then some (.iload 6, 112, 6, []) else none
       else
        if pc = 112 then some (.invokevirtual 149, 115, 48, [2, 0, 0, 2, 8, 0, 0]) else none
    else
     if pc < 122 then
      if pc < 117 then
       if pc = 115 then some (.astore 7, 117, 7, []) else none
      else
       if pc < 119 then
        if pc = 117 then some (.aload 7, 119, 7, []) else none
       else
        if pc = 119 then some (.ifnull 11, 122, 130, []) else none
     else
      if pc < 124 then
       if pc = 122 then some (.aload 7, 124, 7, []) else none
      else
       if pc < 127 then
        if pc = 124 then some (.getfield 165, 127, 5, [0, 0, 10]) else none
       else
        if pc = 127 then some (.ifCond .eq 6, 130, 133, []) else none
   else
    if pc < 140 then
     if pc < 135 then
      if pc < 132 then
       if pc = 130 then some (.bipush (-3), 132, 0, []) else none
      else
       if pc < 133 then
        if pc = 132 then some (.ireturn, 133, 0, []) else none
       else
        if pc = 133 then some (.aload 7, 135, 7, []) else none
     else
      if pc < 138 then
       if pc = 135 then some (.getfield 153, 138, 5, [6, 0, 10]) else none
      else
       if pc < 139 then
        if pc = 138 then some (.iconst 2, 139, 0, []) else none
       else
        if pc = 139 then some (.iand, 140, 0, []) else none
    else
     if pc < 148 then
      if pc < 143 then
       if pc = 140 then some (.ifCond .eq 13, 143, 153, []) else none
      else
       if pc < 145 then
        if pc = 143 then some (.aload 7, 145, 7, []) else none
       else
        if pc = 145 then some (.getfield 153, 148, 5, [6, 0, 10]) else none
     else
      if pc < 150 then
       if pc < 149 then
        if pc = 148 then some (.iconst 1, 149, 0, []) else none
       else
        if pc = 149 then some (.iand, 150, 0, []) else none
      else
       if pc < 153 then
        if pc = 150 then some (.ifCond .ne 6, 153, 156, []) else none
       else
        if pc = 153 then some (.bipush (-4), 155, 0, []) else none
  else
   if pc < 182 then
    if pc < 166 then
     if pc < 159 then
      if pc < 156 then
       if pc = 155 then some (.ireturn, 156, 0, []) else none
      else
       if pc < 158 then
        if pc = 156 then some (.aload 7, 158, 7, []) else none
       else
        if pc = 158 then some (.aload_n 0, 159, 0, []) else none
     else
      if pc < 162 then
       if pc = 159 then some (.getfield 12, 162, 10, [0, 1, 7]) else none
      else
       if pc < 165 then
        if pc = 162 then some (.getfield 109, 165, 4, [0, 1, 5]) else none
       else
        if pc = 165 then some (.iload_n 3, 166, 3, []) else none
    else
     if pc < 174 then
      if pc < 168 then
       if pc = 166 then some (.iload 4, 168, 4, []) else none
      else
       if pc < 171 then
        if pc = 168 then some (.invokevirtual 252, 171, 39, [4, 0, 0, 6, 6, 0, 0]) else none
       else
        if pc = 171 then some (.ifnull 6, 174, 177, []) else none
     else
      if pc < 177 then
       if pc < 176 then
        if pc = 174 then some (.bipush (-7), 176, 0, []) else none
       else
        if pc = 176 then some (.ireturn, 177, 0, []) else none
      else
       if pc < 179 then
        if pc = 177 then some (.aload 7, 179, 7, []) else none
       else
        if pc = 179 then some (.getfield 156, 182, 5, [5, 0, 10]) else none
   else
    if pc < 195 then
     if pc < 188 then
      if pc < 184 then
       if pc = 182 then some (.bipush 12, 184, 0, []) else none
      else
       if pc < 187 then
        if pc = 184 then some (.if_icmp .ge 19, 187, 203, []) else none
       else
        if pc = 187 then some (.iload_n 2, 188, 2, []) else none
     else
      if pc < 191 then
       if pc = 188 then some (.ifCond .eq 18, 191, 206, []) else none
      else
       if pc < 192 then
        if pc = 191 then some (.aload_n 0, 192, 0, []) else none
       else
        if pc = 192 then some (.getfield 19, 195, 10, [1, 1, 7]) else none
    else
     if pc < 203 then
      if pc < 198 then
       if pc = 195 then some (.getfield 230, 198, 7, [1, 0, 3]) else none
      else
       if pc < 200 then
        if pc = 198 then some (.bipush 48, 200, 0, []) else none
       else
        if pc = 200 then some (.if_icmp .lt 6, 203, 206, []) else none
     else
      if pc < 206 then
       if pc < 205 then
        if pc = 203 then some (.bipush (-8), 205, 0, []) else none
       else
        if pc = 205 then some (.ireturn, 206, 0, []) else none
      else
       if pc < 208 then
        if pc = 206 then some (.iload 6, 208, 6, []) else none
       else
        if pc = 208 then some (.ireturn, 209, 0, []) else none

def mc_X10_settle (pc : Nat) : Option mE :=
 if pc < 19 then
  if pc < 10 then
   if pc < 4 then
    if pc < 1 then
     if pc = 0 then some (.aload_n 0, 1, 0, []) else none
    else
     if pc = 1 then some (.getfield 19, 4, 10, [1, 1, 7]) else none
   else
    if pc < 5 then
     if pc = 4 then some (.aload_n 1, 5, 1, []) else none
    else
     if pc < 8 then
      if pc = 5 then some (.invokevirtual 256, 8, 50, [2, 0, 0, 3, 8, 0, 0]) else none
     else
      if pc = 8 then some (.istore 4, 10, 4, []) else none
  else
   if pc < 15 then
    if pc < 12 then
     if pc = 10 then some (.iload 4, 12, 4, []) else none
    else
     if pc = 12 then some (.ifCond .ge 6, 15, 18, []) else none
   else
    if pc < 17 then
     if pc = 15 then some (.bipush (-8), 17, 0, []) else none
    else
     if pc < 18 then
      if pc = 17 then some (.ireturn, 18, 0, []) else none
     else
      if pc = 18 then some (.aload_n 0, 19, 0, []) else none
 else
  if pc < 28 then
   if pc < 23 then
    if pc < 22 then
     if pc = 19 then some (.getfield 19, 22, 10, [1, 1, 7]) else none
    else
     if pc = 22 then some (.iload_n 2, 23, 2, []) else none
   else
    if pc < 24 then
     if pc = 23 then some (.aload_n 0, 24, 0, []) else none
    else
     if pc < 27 then
      if pc = 24 then some (.getfield 12, 27, 10, [0, 1, 7]) else none
     else
      if pc = 27 then some (.iload_n 3, 28, 3, []) else none
  else
   if pc < 33 then
    if pc < 31 then
     if pc = 28 then some (.invokevirtual 131, 31, 37, [2, 1, 100, 4, 5, 0, 0]) else none
    else
     if pc = 31 then some (.iload 4, 33, 4, []) else none
   else
    if pc < 36 then
     if pc = 33 then some (.invokevirtual 135, 36, 51, [4, 1, 2, 7, 8, 0, 0]) else none
    else
     if pc < 38 then
      if pc = 36 then some (.iload 4, 38, 4, []) else none
     else
      if pc = 38 then some (.ireturn, 39, 0, []) else none

def mc_X10_lookUpNewer (pc : Nat) : Option mE :=
 if pc < 43 then
  if pc < 22 then
   if pc < 10 then
    if pc < 3 then
     if pc < 1 then
      if pc = 0 then some (.iconst 0, 1, 0, []) else none
     else
      if pc = 1 then some (.istore_n 1, 100002, 1, []) else none
    else
     if pc < 4 then
      if pc = 3 then some (.aload_n 0, 4, 0, []) else none
     else
      if pc < 7 then
       if pc = 4 then some (.getfield 44, 7, 10, [4, 1, 7]) else none
      else
       if pc = 7 then some (.getfield 259, 10, 1, [5, 0, 8]) else none
   else
    if pc < 17 then
     if pc < 13 then
      if pc = 10 then some (.if_icmp .ge 74, 13, 84, []) else none
     else
      if pc < 14 then
       if pc = 13 then some (.aload_n 0, 14, 0, []) else none
      else
       if pc = 14 then some (.getfield 44, 17, 10, [4, 1, 7]) else none
    else
     if pc < 20 then
      if pc = 17 then some (.getfield 262, 20, 1, [1, 1, 8]) else none
     else
      if pc < 21 then
       if pc = 20 then some (.iload_n 1, 21, 1, []) else none
      else
       if pc = 21 then some (.iaload, 22, 0, []) else none
  else
   if pc < 35 then
    if pc < 28 then
     if pc < 24 then
      if pc = 22 then some (.bipush 11, 24, 0, []) else none
     else
      if pc < 27 then
       if pc = 24 then some (.if_icmp .ne 54, 27, 78, []) else none
      else
       if pc = 27 then some (.aload_n 0, 28, 0, []) else none
    else
     if pc < 29 then
      if pc = 28 then some (.aload_n 0, 29, 0, []) else none
     else
      if pc < 32 then
       if pc = 29 then some (.getfield 44, 32, 10, [4, 1, 7]) else none
      else
       if pc = 32 then some (.getfield 266, 35, 1, [2, 1, 8]) else none
   else
    if pc < 38 then
     if pc < 36 then
      if pc = 35 then some (.iload_n 1, 36, 1, []) else none
     else
      if pc < 37 then
       if pc = 36 then some (.iaload, 37, 0, []) else none
      else
       if pc = 37 then some (.iconst 1, 38, 0, []) else none
    else
     if pc < 41 then
      if pc = 38 then some (.invokevirtual 125, 41, 86, [3, 0, 0, 3, 11, 0, 0]) else none
     else
      if pc < 42 then
       if pc = 41 then some (.istore_n 2, 42, 2, []) else none
      else
       if pc = 42 then some (.iload_n 2, 43, 2, []) else none
 else
  if pc < 65 then
   if pc < 53 then
    if pc < 48 then
     if pc < 46 then
      if pc = 43 then some (.ifCond .ge 5, 46, 48, []) else none
     else
      if pc < 47 then
       if pc = 46 then some (.iload_n 2, 47, 2, []) else none
      else
       if pc = 47 then some (.ireturn, 48, 0, []) else none
    else
     if pc < 49 then
      if pc = 48 then some (.aload_n 0, 49, 0, []) else none
     else
      if pc < 52 then
       if pc = 49 then some (.getfield 19, 52, 10, [1, 1, 7]) else none
      else
       if pc = 52 then some (.iload_n 2, 53, 2, []) else none
   else
    if pc < 58 then
     if pc < 56 then
      if pc = 53 then some (.invokevirtual 149, 56, 48, [2, 0, 0, 2, 8, 0, 0]) else none
     else
      if pc < 57 then
       if pc = 56 then some (.astore_n 3, 57, 3, []) else none
      else
       if pc = 57 then some (.aload_n 0, 58, 0, []) else none
    else
     if pc < 61 then
      if pc = 58 then some (.getfield 44, 61, 10, [4, 1, 7]) else none
     else
      if pc < 64 then
       if pc = 61 then some (.getfield 269, 64, 1, [3, 1, 8]) else none
      else
       if pc = 64 then some (.iload_n 1, 65, 1, []) else none
  else
   if pc < 77 then
    if pc < 70 then
     if pc < 66 then
      if pc = 65 then some (.aload_n 3, 66, 3, []) else none
     else
      if pc < 69 then
       if pc = 66 then some (.ifnonnull 7, 69, 73, []) else none
      else
       if pc = 69 then some (.iconst 0, 70, 0, []) else none
    else
     if pc < 73 then
      if pc = 70 then some (.goto 7, 73, 77, []) else none
     else
      if pc < 74 then
       if pc = 73 then some (.aload_n 3, 74, 3, []) else none
      else
       if pc = 74 then some (.getfield 224, 77, 5, [2, 0, 10]) else none
   else
    if pc < 84 then
     if pc < 78 then
      if pc = 77 then some (.iastore, 78, 0, []) else none
     else
      if pc < 81 then
       if pc = 78 then some (.iinc 1 1, 81, 1, []) else none
      else
       if pc = 81 then some (.goto (-79), 84, 100002, []) else none
    else
     if pc < 85 then
      if pc = 84 then some (.iconst 0, 85, 0, []) else none
     else
      if pc < 100002 then
       if pc = 85 then some (.ireturn, 86, 0, []) else none
      else
       if pc = 100002 then some (.iload_n 1, 3, 1, []) else none

def mc_X11_init (pc : Nat) : Option mE :=
 if pc < 161 then
  if pc < 78 then
   if pc < 37 then
    if pc < 17 then
     if pc < 7 then
      if pc < 4 then
       if pc < 1 then
        if pc = 0 then some (.aload_n 0, 1, 0, []) else none
       else
        if pc = 1 then some (.invokespecial 1, 4, 1000, []) else none
      else
       if pc < 5 then
        if pc = 4 then some (.aload_n 0, 5, 0, []) else none
       else
        if pc = 5 then some (.bipush 48, 7, 0, []) else none
     else
      if pc < 12 then
       if pc < 9 then
        if pc = 7 then some (.newarray .int, 9, 20, []) else none
       else
        if pc = 9 then some (.putfield 7, 12, 11, [1, 1, 54]) else none
      else
       if pc < 13 then
        if pc = 12 then some (.aload_n 0, 13, 0, []) else none
       else
        if pc < 15 then
         if pc = 13 then some (.bipush 48, 15, 0, []) else none
        else
         if pc = 15 then some (.newarray .int, 17, 20, []) else none
    else
     if pc < 28 then
      if pc < 21 then
       if pc < 20 then
        if pc = 17 then some (.putfield 13, 20, 11, [2, 1, 54]) else none
       else
        if pc = 20 then some (.aload_n 0, 21, 0, []) else none
      else
       if pc < 23 then
        if pc = 21 then some (.bipush 48, 23, 0, []) else none
       else
        if pc < 25 then
         if pc = 23 then some (.newarray .int, 25, 20, []) else none
        else
         if pc = 25 then some (.putfield 16, 28, 11, [3, 1, 54]) else none
     else
      if pc < 31 then
       if pc < 29 then
        if pc = 28 then some (.aload_n 0, 29, 0, []) else none
       else
        if pc = 29 then some (.bipush 48, 31, 0, []) else none
      else
       if pc < 33 then
        if pc = 31 then some (.newarray .int, 33, 20, []) else none
       else
        if pc < 36 then
         if pc = 33 then some (.putfield 19, 36, 11, [4, 1, 54]) else none
        else
         if pc = 36 then some (.aload_n 0, 37, 0, []) else none
   else
    if pc < 57 then
     if pc < 47 then
      if pc < 41 then
       if pc < 39 then
        if pc = 37 then some (.bipush 48, 39, 0, []) else none
       else
        if pc = 39 then some (.newarray .int, 41, 20, []) else none
      else
       if pc < 44 then
        if pc = 41 then some (.putfield 22, 44, 11, [5, 1, 54]) else none
       else
        if pc < 45 then
         if pc = 44 then some (.aload_n 0, 45, 0, []) else none
        else
         if pc = 45 then some (.bipush 48, 47, 0, []) else none
     else
      if pc < 52 then
       if pc < 49 then
        if pc = 47 then some (.newarray .int, 49, 20, []) else none
       else
        if pc = 49 then some (.putfield 25, 52, 11, [6, 1, 54]) else none
      else
       if pc < 53 then
        if pc = 52 then some (.aload_n 0, 53, 0, []) else none
       else
        if pc < 55 then
         if pc = 53 then some (.bipush 48, 55, 0, []) else none
        else
         if pc = 55 then some (.newarray .int, 57, 20, []) else none
    else
     if pc < 69 then
      if pc < 61 then
       if pc < 60 then
        if pc = 57 then some (.putfield 28, 60, 11, [7, 1, 54]) else none
       else
        if pc = 60 then some (.aload_n 0, 61, 0, []) else none
      else
       if pc < 64 then
        if pc = 61 then some (.sipush 1920, 64, 0, []) else none
       else
        if pc < 66 then
         if pc = 64 then some (.newarray .char, 66, 21, []) else none
        else
         if pc = 66 then some (.putfield 31, 69, 11, [8, 1, 54]) else none
     else
      if pc < 72 then
       if pc < 70 then
        if pc = 69 then some (.aload_n 0, 70, 0, []) else none
       else
        if pc = 70 then some (.bipush 48, 72, 0, []) else none
      else
       if pc < 74 then
        if pc = 72 then some (.newarray .int, 74, 20, []) else none
       else
        if pc < 77 then
         if pc = 74 then some (.putfield 35, 77, 11, [9, 1, 54]) else none
        else
         if pc = 77 then some (.aload_n 0, 78, 0, []) else none
  else
   if pc < 120 then
    if pc < 99 then
     if pc < 87 then
      if pc < 83 then
       if pc < 81 then
        if pc = 78 then some (.sipush 576, 81, 0, []) else none
       else
        if pc = 81 then some (.newarray .int, 83, 20, []) else none
      else
       if pc < 86 then
        if pc = 83 then some (.putfield 38, 86, 11, [10, 1, 54]) else none
       else
        if pc = 86 then some (.aload_n 0, 87, 0, []) else none
     else
      if pc < 92 then
       if pc < 90 then
        if pc = 87 then some (.sipush 576, 90, 0, []) else none
       else
        if pc = 90 then some (.newarray .int, 92, 20, []) else none
      else
       if pc < 95 then
        if pc = 92 then some (.putfield 41, 95, 11, [11, 1, 54]) else none
       else
        if pc < 96 then
         if pc = 95 then some (.aload_n 0, 96, 0, []) else none
        else
         if pc = 96 then some (.sipush 8064, 99, 0, []) else none
    else
     if pc < 109 then
      if pc < 104 then
       if pc < 101 then
        if pc = 99 then some (.newarray .char, 101, 21, []) else none
       else
        if pc = 101 then some (.putfield 44, 104, 11, [12, 1, 54]) else none
      else
       if pc < 105 then
        if pc = 104 then some (.aload_n 0, 105, 0, []) else none
       else
        if pc < 107 then
         if pc = 105 then some (.bipush 100, 107, 0, []) else none
        else
         if pc = 107 then some (.newarray .char, 109, 21, []) else none
     else
      if pc < 113 then
       if pc < 112 then
        if pc = 109 then some (.putfield 47, 112, 11, [14, 1, 54]) else none
       else
        if pc = 112 then some (.aload_n 0, 113, 0, []) else none
      else
       if pc < 115 then
        if pc = 113 then some (.bipush 52, 115, 0, []) else none
       else
        if pc < 117 then
         if pc = 115 then some (.newarray .int, 117, 20, []) else none
        else
         if pc = 117 then some (.putfield 50, 120, 11, [17, 1, 54]) else none
   else
    if pc < 139 then
     if pc < 129 then
      if pc < 123 then
       if pc < 121 then
        if pc = 120 then some (.aload_n 0, 121, 0, []) else none
       else
        if pc = 121 then some (.bipush 52, 123, 0, []) else none
      else
       if pc < 125 then
        if pc = 123 then some (.newarray .int, 125, 20, []) else none
       else
        if pc < 128 then
         if pc = 125 then some (.putfield 53, 128, 11, [18, 1, 54]) else none
        else
         if pc = 128 then some (.aload_n 0, 129, 0, []) else none
     else
      if pc < 134 then
       if pc < 132 then
        if pc = 129 then some (.sipush 1500, 132, 0, []) else none
       else
        if pc = 132 then some (.newarray .char, 134, 21, []) else none
      else
       if pc < 137 then
        if pc = 134 then some (.putfield 56, 137, 11, [19, 1, 54]) else none
       else
        if pc < 138 then
         if pc = 137 then some (.aload_n 0, 138, 0, []) else none
        else
         if pc = 138 then some (.iconst (-1), 139, 0, []) else none
    else
     if pc < 151 then
      if pc < 143 then
       if pc < 142 then
        if pc = 139 then some (.putfield 59, 142, 11, [22, 0, 54]) else none
       else
        if pc = 142 then some (.aload_n 0, 143, 0, []) else none
      else
       if pc < 146 then
        if pc = 143 then some (.sipush 1000, 146, 0, []) else none
       else
        if pc < 148 then
         if pc = 146 then some (.newarray .char, 148, 21, []) else none
        else
         if pc = 148 then some (.putfield 63, 151, 11, [23, 1, 54]) else none
     else
      if pc < 155 then
       if pc < 152 then
        if pc = 151 then some (.aload_n 0, 152, 0, []) else none
       else
        if pc = 152 then some (.sipush 1000, 155, 0, []) else none
      else
       if pc < 157 then
        if pc = 155 then some (.newarray .char, 157, 21, []) else none
       else
        if pc < 160 then
         if pc = 157 then some (.putfield 66, 160, 11, [24, 1, 54]) else none
        else
         if pc = 160 then some (.aload_n 0, 161, 0, []) else none
 else
  if pc < 242 then
   if pc < 201 then
    if pc < 179 then
     if pc < 169 then
      if pc < 165 then
       if pc < 163 then
        if pc = 161 then some (.bipush 60, 163, 0, []) else none
       else
        if pc = 163 then some (.newarray .int, 165, 20, []) else none
      else
       if pc < 168 then
        if pc = 165 then some (.putfield 69, 168, 11, [28, 1, 54]) else none
       else
        if pc = 168 then some (.aload_n 0, 169, 0, []) else none
     else
      if pc < 173 then
       if pc < 171 then
        if pc = 169 then some (.bipush 60, 171, 0, []) else none
       else
        if pc = 171 then some (.newarray .int, 173, 20, []) else none
      else
       if pc < 176 then
        if pc = 173 then some (.putfield 72, 176, 11, [29, 1, 54]) else none
       else
        if pc < 177 then
         if pc = 176 then some (.aload_n 0, 177, 0, []) else none
        else
         if pc = 177 then some (.bipush 60, 179, 0, []) else none
    else
     if pc < 189 then
      if pc < 184 then
       if pc < 181 then
        if pc = 179 then some (.newarray .int, 181, 20, []) else none
       else
        if pc = 181 then some (.putfield 75, 184, 11, [30, 1, 54]) else none
      else
       if pc < 185 then
        if pc = 184 then some (.aload_n 0, 185, 0, []) else none
       else
        if pc < 187 then
         if pc = 185 then some (.bipush 60, 187, 0, []) else none
        else
         if pc = 187 then some (.newarray .int, 189, 20, []) else none
     else
      if pc < 193 then
       if pc < 192 then
        if pc = 189 then some (.putfield 78, 192, 11, [31, 1, 54]) else none
       else
        if pc = 192 then some (.aload_n 0, 193, 0, []) else none
      else
       if pc < 196 then
        if pc = 193 then some (.sipush 130, 196, 0, []) else none
       else
        if pc < 198 then
         if pc = 196 then some (.newarray .int, 198, 20, []) else none
        else
         if pc = 198 then some (.putfield 81, 201, 11, [32, 1, 54]) else none
   else
    if pc < 221 then
     if pc < 210 then
      if pc < 204 then
       if pc < 202 then
        if pc = 201 then some (.aload_n 0, 202, 0, []) else none
       else
        if pc = 202 then some (.bipush 60, 204, 0, []) else none
      else
       if pc < 206 then
        if pc = 204 then some (.newarray .int, 206, 20, []) else none
       else
        if pc < 209 then
         if pc = 206 then some (.putfield 84, 209, 11, [33, 1, 54]) else none
        else
         if pc = 209 then some (.aload_n 0, 210, 0, []) else none
     else
      if pc < 214 then
       if pc < 212 then
        if pc = 210 then some (.bipush 60, 212, 0, []) else none
       else
        if pc = 212 then some (.newarray .int, 214, 20, []) else none
      else
       if pc < 217 then
        if pc = 214 then some (.putfield 87, 217, 11, [34, 1, 54]) else none
       else
        if pc < 218 then
         if pc = 217 then some (.aload_n 0, 218, 0, []) else none
        else
         if pc = 218 then some (.sipush 1000, 221, 0, []) else none
    else
     if pc < 231 then
      if pc < 226 then
       if pc < 223 then
        if pc = 221 then some (.newarray .char, 223, 21, []) else none
       else
        if pc = 223 then some (.putfield 90, 226, 11, [42, 1, 54]) else none
      else
       if pc < 227 then
        if pc = 226 then some (.aload_n 0, 227, 0, []) else none
       else
        if pc < 229 then
         if pc = 227 then some (.bipush 60, 229, 0, []) else none
        else
         if pc = 229 then some (.newarray .int, 231, 20, []) else none
     else
      if pc < 235 then
       if pc < 234 then
        if pc = 231 then some (.putfield 93, 234, 11, [46, 1, 54]) else none
       else
        if pc = 234 then some (.aload_n 0, 235, 0, []) else none
      else
       if pc < 237 then
        if pc = 235 then some (.bipush 60, 237, 0, []) else none
       else
        if pc < 239 then
         if pc = 237 then some (.newarray .int, 239, 20, []) else none
        else
         if pc = 239 then some (.putfield 96, 242, 11, [47, 1, 54]) else none
  else
   if pc < 281 then
    if pc < 262 then
     if pc < 251 then
      if pc < 245 then
       if pc < 243 then
        if pc = 242 then some (.aload_n 0, 243, 0, []) else none
       else
        if pc = 243 then some (.bipush 60, 245, 0, []) else none
      else
       if pc < 247 then
        if pc = 245 then some (.newarray .int, 247, 20, []) else none
       else
        if pc < 250 then
         if pc = 247 then some (.putfield 99, 250, 11, [48, 1, 54]) else none
        else
         if pc = 250 then some (.aload_n 0, 251, 0, []) else none
     else
      if pc < 255 then
       if pc < 253 then
        if pc = 251 then some (.bipush 60, 253, 0, []) else none
       else
        if pc = 253 then some (.newarray .int, 255, 20, []) else none
      else
       if pc < 258 then
        if pc = 255 then some (.putfield 102, 258, 11, [49, 1, 54]) else none
       else
        if pc < 259 then
         if pc = 258 then some (.aload_n 0, 259, 0, []) else none
        else
         if pc = 259 then some (.sipush 1002, 262, 0, []) else none
    else
     if pc < 272 then
      if pc < 267 then
       if pc < 264 then
        if pc = 262 then some (.newarray .boolean, 264, 22, []) else none
       else
        if pc = 264 then some (.putfield 105, 267, 11, [50, 1, 54]) else none
      else
       if pc < 268 then
        if pc = 267 then some (.iconst 0, 268, 0, []) else none
       else
        if pc < 270 then
         if pc = 268 then some (.istore_n 1, 100269, 1, []) else none
        else
         if pc = 270 then some (.bipush 48, 272, 0, []) else none
     else
      if pc < 276 then
       if pc < 275 then
        if pc = 272 then some (.if_icmp .ge 16, 275, 288, []) else none
       else
        if pc = 275 then some (.aload_n 0, 276, 0, []) else none
      else
       if pc < 279 then
        if pc = 276 then some (.getfield 7, 279, 11, [1, 1, 54]) else none
       else
        if pc < 280 then
         if pc = 279 then some (.iload_n 1, 280, 1, []) else none
        else
         if pc = 280 then some (.iconst (-1), 281, 0, []) else none
   else
    if pc < 299 then
     if pc < 292 then
      if pc < 285 then
       if pc < 282 then
        if pc = 281 then some (.iastore, 282, 0, []) else none
       else
        if pc = 282 then some (.iinc 1 1, 285, 1, []) else none
      else
       if pc < 288 then
        if pc = 285 then some (.goto (-16), 288, 100269, []) else none
       else
        if pc < 289 then
         if pc = 288 then some (.aload_n 0, 289, 0, []) else none
        else
         if pc = 289 then some (.getfield 7, 292, 11, [1, 1, 54]) else none
     else
      if pc < 294 then
       if pc < 293 then
        if pc = 292 then some (.iconst 0, 293, 0, []) else none
       else
        if pc = 293 then some (.iconst 0, 294, 0, []) else none
      else
       if pc < 295 then
        if pc = 294 then some (.iastore, 295, 0, []) else none
       else
        if pc < 296 then
         if pc = 295 then some (.aload_n 0, 296, 0, []) else none
        else
         if pc = 296 then some (.getfield 19, 299, 11, [4, 1, 54]) else none
    else
     if pc < 306 then
      if pc < 301 then
       if pc < 300 then
        if pc = 299 then some (.iconst 0, 300, 0, []) else none
       else
        if pc = 300 then some (.iconst 1, 301, 0, []) else none
      else
       if pc < 302 then
        if pc = 301 then some (.iastore, 302, 0, []) else none
       else
        if pc < 303 then
         if pc = 302 then some (.aload_n 0, 303, 0, []) else none
        else
         if pc = 303 then some (.getfield 22, 306, 11, [5, 1, 54]) else none
     else
      if pc < 309 then
       if pc < 307 then
        if pc = 306 then some (.iconst 0, 307, 0, []) else none
       else
        if pc = 307 then some (.bipush 7, 309, 0, []) else none
      else
       if pc < 310 then
        if pc = 309 then some (.iastore, 310, 0, []) else none
       else
        if pc < 100269 then
         if pc = 310 then some (.return_, 311, 0, []) else none
        else
         if pc = 100269 then some (.iload_n 1, 270, 1, []) else none

def mc_X11_thrown (pc : Nat) : Option mE :=
 if pc < 1 then
  if pc = 0 then some (.aload_n 0, 1, 0, []) else none
 else
  if pc < 4 then
   if pc = 1 then some (.getfield 109, 4, 11, [0, 0, 54]) else none
  else
   if pc = 4 then some (.ireturn, 5, 0, []) else none

def mc_X11_refused (pc : Nat) : Option mE :=
 if pc < 6 then
  if pc < 2 then
   if pc < 1 then
    if pc = 0 then some (.aload_n 0, 1, 0, []) else none
   else
    if pc = 1 then some (.iload_n 1, 2, 1, []) else none
  else
   if pc < 5 then
    if pc = 2 then some (.putfield 109, 5, 11, [0, 0, 54]) else none
   else
    if pc = 5 then some (.iload_n 1, 6, 1, []) else none
 else
  if pc < 10 then
   if pc < 9 then
    if pc = 6 then some (.ifCond .le 7, 9, 13, []) else none
   else
    if pc = 9 then some (.iconst 1, 10, 0, []) else none
  else
   if pc < 13 then
    if pc = 10 then some (.goto 4, 13, 14, []) else none
   else
    if pc < 14 then
     if pc = 13 then some (.iconst 0, 14, 0, []) else none
    else
     if pc = 14 then some (.ireturn, 15, 2, []) else none

def mc_X11_put (pc : Nat) : Option mE :=
 if pc < 22 then
  if pc < 8 then
   if pc < 3 then
    if pc < 1 then
     if pc = 0 then some (.iload_n 1, 1, 1, []) else none
    else
     if pc < 2 then
      if pc = 1 then some (.iload_n 2, 2, 2, []) else none
     else
      if pc = 2 then some (.ishr, 3, 0, []) else none
   else
    if pc < 6 then
     if pc = 3 then some (.sipush 255, 6, 0, []) else none
    else
     if pc < 7 then
      if pc = 6 then some (.iand, 7, 0, []) else none
     else
      if pc = 7 then some (.istore_n 3, 8, 3, []) else none
  else
   if pc < 13 then
    if pc < 9 then
     if pc = 8 then some (.iload_n 3, 9, 3, []) else none
    else
     if pc < 12 then
      if pc = 9 then some (.ifCond .le 33, 12, 42, []) else none
     else
      if pc = 12 then some (.aload_n 0, 13, 0, []) else none
   else
    if pc < 18 then
     if pc < 16 then
      if pc = 13 then some (.getfield 112, 16, 11, [15, 0, 54]) else none
     else
      if pc = 16 then some (.bipush 100, 18, 0, []) else none
    else
     if pc < 21 then
      if pc = 18 then some (.if_icmp .ge 14, 21, 32, []) else none
     else
      if pc = 21 then some (.aload_n 0, 22, 0, []) else none
 else
  if pc < 32 then
   if pc < 29 then
    if pc < 25 then
     if pc = 22 then some (.getfield 47, 25, 11, [14, 1, 54]) else none
    else
     if pc < 26 then
      if pc = 25 then some (.aload_n 0, 26, 0, []) else none
     else
      if pc = 26 then some (.getfield 112, 29, 11, [15, 0, 54]) else none
   else
    if pc < 30 then
     if pc = 29 then some (.iload_n 3, 30, 3, []) else none
    else
     if pc < 31 then
      if pc = 30 then some (.i2c, 31, 0, []) else none
     else
      if pc = 31 then some (.castore, 32, 0, []) else none
  else
   if pc < 37 then
    if pc < 33 then
     if pc = 32 then some (.aload_n 0, 33, 0, []) else none
    else
     if pc < 34 then
      if pc = 33 then some (.dup, 34, 0, []) else none
     else
      if pc = 34 then some (.getfield 112, 37, 11, [15, 0, 54]) else none
   else
    if pc < 39 then
     if pc < 38 then
      if pc = 37 then some (.iconst 1, 38, 0, []) else none
     else
      if pc = 38 then some (.iadd, 39, 0, []) else none
    else
     if pc < 42 then
      if pc = 39 then some (.putfield 112, 42, 11, [15, 0, 54]) else none
     else
      if pc = 42 then some (.return_, 43, 0, []) else none

def mc_X11_type (pc : Nat) : Option mE :=
 if pc < 68 then
  if pc < 31 then
   if pc < 15 then
    if pc < 6 then
     if pc < 1 then
      if pc = 0 then some (.aload_n 0, 1, 0, []) else none
     else
      if pc < 4 then
       if pc = 1 then some (.getfield 112, 4, 11, [15, 0, 54]) else none
      else
       if pc = 4 then some (.istore 6, 6, 6, []) else none
    else
     if pc < 11 then
      if pc < 7 then
       if pc = 6 then some (.iconst 0, 7, 0, []) else none
      else
       if pc = 7 then some (.istore 7, 100009, 7, []) else none
     else
      if pc < 12 then
       if pc = 11 then some (.iconst 5, 12, 0, []) else none
      else
       if pc = 12 then some (.if_icmp .ge 80, 15, 92, []) else none
   else
    if pc < 24 then
     if pc < 20 then
      if pc < 17 then
       if pc = 15 then some (.iload 7, 17, 7, []) else none
      else
       if pc = 17 then some (.ifCond .ne 7, 20, 24, []) else none
     else
      if pc < 21 then
       if pc = 20 then some (.iload_n 1, 21, 1, []) else none
      else
       if pc = 21 then some (.goto 36, 24, 57, []) else none
    else
     if pc < 27 then
      if pc < 26 then
       if pc = 24 then some (.iload 7, 26, 7, []) else none
      else
       if pc = 26 then some (.iconst 1, 27, 0, []) else none
     else
      if pc < 30 then
       if pc = 27 then some (.if_icmp .ne 7, 30, 34, []) else none
      else
       if pc = 30 then some (.iload_n 2, 31, 2, []) else none
  else
   if pc < 47 then
    if pc < 40 then
     if pc < 36 then
      if pc < 34 then
       if pc = 31 then some (.goto 26, 34, 57, []) else none
      else
       if pc = 34 then some (.iload 7, 36, 7, []) else none
     else
      if pc < 37 then
       if pc = 36 then some (.iconst 2, 37, 0, []) else none
      else
       if pc = 37 then some (.if_icmp .ne 7, 40, 44, []) else none
    else
     if pc < 44 then
      if pc < 41 then
       if pc = 40 then some (.iload_n 3, 41, 3, []) else none
      else
       if pc = 41 then some (.goto 16, 44, 57, []) else none
     else
      if pc < 46 then
       if pc = 44 then some (.iload 7, 46, 7, []) else none
      else
       if pc = 46 then some (.iconst 3, 47, 0, []) else none
   else
    if pc < 57 then
     if pc < 52 then
      if pc < 50 then
       if pc = 47 then some (.if_icmp .ne 8, 50, 55, []) else none
      else
       if pc = 50 then some (.iload 4, 52, 4, []) else none
     else
      if pc < 55 then
       if pc = 52 then some (.goto 5, 55, 57, []) else none
      else
       if pc = 55 then some (.iload 5, 57, 5, []) else none
    else
     if pc < 61 then
      if pc < 59 then
       if pc = 57 then some (.istore 8, 59, 8, []) else none
      else
       if pc = 59 then some (.bipush 24, 61, 0, []) else none
     else
      if pc < 65 then
       if pc = 61 then some (.istore 9, 100063, 9, []) else none
      else
       if pc = 65 then some (.ifCond .lt 21, 68, 86, []) else none
 else
  if pc < 99 then
   if pc < 81 then
    if pc < 73 then
     if pc < 69 then
      if pc = 68 then some (.aload_n 0, 69, 0, []) else none
     else
      if pc < 71 then
       if pc = 69 then some (.iload 8, 71, 8, []) else none
      else
       if pc = 71 then some (.iload 9, 73, 9, []) else none
    else
     if pc < 78 then
      if pc < 76 then
       if pc = 73 then some (.invokevirtual 115, 76, 93, [3, 0, 0, 4, 12, 0, 0]) else none
      else
       if pc = 76 then some (.iload 9, 78, 9, []) else none
     else
      if pc < 80 then
       if pc = 78 then some (.bipush 8, 80, 0, []) else none
      else
       if pc = 80 then some (.isub, 81, 0, []) else none
   else
    if pc < 92 then
     if pc < 86 then
      if pc < 83 then
       if pc = 81 then some (.istore 9, 83, 9, []) else none
      else
       if pc = 83 then some (.goto (-20), 86, 100063, []) else none
     else
      if pc < 89 then
       if pc = 86 then some (.iinc 7 1, 89, 7, []) else none
      else
       if pc = 89 then some (.goto (-80), 92, 100009, []) else none
    else
     if pc < 94 then
      if pc < 93 then
       if pc = 92 then some (.aload_n 0, 93, 0, []) else none
      else
       if pc = 93 then some (.aload_n 0, 94, 0, []) else none
     else
      if pc < 97 then
       if pc = 94 then some (.getfield 112, 97, 11, [15, 0, 54]) else none
      else
       if pc = 97 then some (.bipush 100, 99, 0, []) else none
  else
   if pc < 116 then
    if pc < 107 then
     if pc < 103 then
      if pc < 102 then
       if pc = 99 then some (.if_icmp .le 7, 102, 106, []) else none
      else
       if pc = 102 then some (.iconst 1, 103, 0, []) else none
     else
      if pc < 106 then
       if pc = 103 then some (.goto 4, 106, 107, []) else none
      else
       if pc = 106 then some (.iconst 0, 107, 0, []) else none
    else
     if pc < 113 then
      if pc < 110 then
       if pc = 107 then some (.invokevirtual 119, 110, 92, [2, 0, 0, 2, 12, 0, 0]) else none
      else
       if pc = 110 then some (.ifCond .eq 11, 113, 121, []) else none
     else
      if pc < 114 then
       if pc = 113 then some (.aload_n 0, 114, 0, []) else none
      else
       if pc = 114 then some (.iload 6, 116, 6, []) else none
   else
    if pc < 122 then
     if pc < 120 then
      if pc < 119 then
       if pc = 116 then some (.putfield 112, 119, 11, [15, 0, 54]) else none
      else
       if pc = 119 then some (.iconst 0, 120, 0, []) else none
     else
      if pc < 121 then
       if pc = 120 then some (.ireturn, 121, 0, []) else none
      else
       if pc = 121 then some (.aload_n 0, 122, 0, []) else none
    else
     if pc < 100009 then
      if pc < 125 then
       if pc = 122 then some (.getfield 112, 125, 11, [15, 0, 54]) else none
      else
       if pc = 125 then some (.ireturn, 126, 0, []) else none
     else
      if pc < 100063 then
       if pc = 100009 then some (.iload 7, 11, 7, []) else none
      else
       if pc = 100063 then some (.iload 9, 65, 9, []) else none

def mc_X11_erase (pc : Nat) : Option mE :=
 if pc < 9 then
  if pc < 2 then
   if pc < 1 then
    if pc = 0 then some (.aload_n 0, 1, 0, []) else none
   else
    if pc = 1 then some (.iconst 0, 2, 0, []) else none
  else
   if pc < 5 then
    if pc = 2 then some (.putfield 109, 5, 11, [0, 0, 54]) else none
   else
    if pc < 6 then
     if pc = 5 then some (.aload_n 0, 6, 0, []) else none
    else
     if pc = 6 then some (.getfield 112, 9, 11, [15, 0, 54]) else none
 else
  if pc < 12 then
   if pc < 10 then
    if pc = 9 then some (.istore_n 1, 10, 1, []) else none
   else
    if pc < 11 then
     if pc = 10 then some (.aload_n 0, 11, 0, []) else none
    else
     if pc = 11 then some (.iconst 0, 12, 0, []) else none
  else
   if pc < 15 then
    if pc = 12 then some (.putfield 112, 15, 11, [15, 0, 54]) else none
   else
    if pc < 16 then
     if pc = 15 then some (.iload_n 1, 16, 1, []) else none
    else
     if pc = 16 then some (.ireturn, 17, 0, []) else none

def mc_X11_cut (pc : Nat) : Option mE :=
 if pc < 47 then
  if pc < 21 then
   if pc < 9 then
    if pc < 5 then
     if pc < 1 then
      if pc = 0 then some (.aload_n 0, 1, 0, []) else none
     else
      if pc < 2 then
       if pc = 1 then some (.iconst 0, 2, 0, []) else none
      else
       if pc = 2 then some (.putfield 123, 5, 11, [16, 0, 54]) else none
    else
     if pc < 6 then
      if pc = 5 then some (.iconst 0, 6, 0, []) else none
     else
      if pc < 8 then
       if pc = 6 then some (.istore_n 1, 100007, 1, []) else none
      else
       if pc = 8 then some (.aload_n 0, 9, 0, []) else none
   else
    if pc < 16 then
     if pc < 12 then
      if pc = 9 then some (.getfield 112, 12, 11, [15, 0, 54]) else none
     else
      if pc < 15 then
       if pc = 12 then some (.if_icmp .ge 78, 15, 90, []) else none
      else
       if pc = 15 then some (.aload_n 0, 16, 0, []) else none
    else
     if pc < 19 then
      if pc = 16 then some (.getfield 47, 19, 11, [14, 1, 54]) else none
     else
      if pc < 20 then
       if pc = 19 then some (.iload_n 1, 20, 1, []) else none
      else
       if pc = 20 then some (.caload, 21, 0, []) else none
  else
   if pc < 36 then
    if pc < 29 then
     if pc < 23 then
      if pc = 21 then some (.bipush 32, 23, 0, []) else none
     else
      if pc < 26 then
       if pc = 23 then some (.if_icmp .ne 9, 26, 32, []) else none
      else
       if pc = 26 then some (.iinc 1 1, 29, 1, []) else none
    else
     if pc < 32 then
      if pc = 29 then some (.goto (-22), 32, 100007, []) else none
     else
      if pc < 33 then
       if pc = 32 then some (.aload_n 0, 33, 0, []) else none
      else
       if pc = 33 then some (.getfield 50, 36, 11, [17, 1, 54]) else none
   else
    if pc < 41 then
     if pc < 37 then
      if pc = 36 then some (.aload_n 0, 37, 0, []) else none
     else
      if pc < 40 then
       if pc = 37 then some (.getfield 123, 40, 11, [16, 0, 54]) else none
      else
       if pc = 40 then some (.iload_n 1, 41, 1, []) else none
    else
     if pc < 43 then
      if pc = 41 then some (.iastore, 100042, 0, []) else none
     else
      if pc < 44 then
       if pc = 43 then some (.aload_n 0, 44, 0, []) else none
      else
       if pc = 44 then some (.getfield 112, 47, 11, [15, 0, 54]) else none
 else
  if pc < 72 then
   if pc < 58 then
    if pc < 54 then
     if pc < 50 then
      if pc = 47 then some (.if_icmp .ge 20, 50, 67, []) else none
     else
      if pc < 51 then
       if pc = 50 then some (.aload_n 0, 51, 0, []) else none
      else
       if pc = 51 then some (.getfield 47, 54, 11, [14, 1, 54]) else none
    else
     if pc < 55 then
      if pc = 54 then some (.iload_n 1, 55, 1, []) else none
     else
      if pc < 56 then
       if pc = 55 then some (.caload, 56, 0, []) else none
      else
       if pc = 56 then some (.bipush 32, 58, 0, []) else none
   else
    if pc < 67 then
     if pc < 61 then
      if pc = 58 then some (.if_icmp .eq 9, 61, 67, []) else none
     else
      if pc < 64 then
       if pc = 61 then some (.iinc 1 1, 64, 1, []) else none
      else
       if pc = 64 then some (.goto (-22), 67, 100042, []) else none
    else
     if pc < 68 then
      if pc = 67 then some (.aload_n 0, 68, 0, []) else none
     else
      if pc < 71 then
       if pc = 68 then some (.getfield 53, 71, 11, [18, 1, 54]) else none
      else
       if pc = 71 then some (.aload_n 0, 72, 0, []) else none
  else
   if pc < 82 then
    if pc < 77 then
     if pc < 75 then
      if pc = 72 then some (.getfield 123, 75, 11, [16, 0, 54]) else none
     else
      if pc < 76 then
       if pc = 75 then some (.iload_n 1, 76, 1, []) else none
      else
       if pc = 76 then some (.iastore, 77, 0, []) else none
    else
     if pc < 78 then
      if pc = 77 then some (.aload_n 0, 78, 0, []) else none
     else
      if pc < 79 then
       if pc = 78 then some (.dup, 79, 0, []) else none
      else
       if pc = 79 then some (.getfield 123, 82, 11, [16, 0, 54]) else none
   else
    if pc < 87 then
     if pc < 83 then
      if pc = 82 then some (.iconst 1, 83, 0, []) else none
     else
      if pc < 84 then
       if pc = 83 then some (.iadd, 84, 0, []) else none
      else
       if pc = 84 then some (.putfield 123, 87, 11, [16, 0, 54]) else none
    else
     if pc < 100007 then
      if pc < 90 then
       if pc = 87 then some (.goto (-80), 90, 100007, []) else none
      else
       if pc = 90 then some (.return_, 91, 0, []) else none
     else
      if pc < 100042 then
       if pc = 100007 then some (.iload_n 1, 8, 1, []) else none
      else
       if pc = 100042 then some (.iload_n 1, 43, 1, []) else none

def mc_X11_wordSize (pc : Nat) : Option mE :=
 if pc < 7 then
  if pc < 4 then
   if pc < 1 then
    if pc = 0 then some (.aload_n 0, 1, 0, []) else none
   else
    if pc = 1 then some (.getfield 53, 4, 11, [18, 1, 54]) else none
  else
   if pc < 5 then
    if pc = 4 then some (.iload_n 1, 5, 1, []) else none
   else
    if pc < 6 then
     if pc = 5 then some (.iaload, 6, 0, []) else none
    else
     if pc = 6 then some (.aload_n 0, 7, 0, []) else none
 else
  if pc < 11 then
   if pc < 10 then
    if pc = 7 then some (.getfield 50, 10, 11, [17, 1, 54]) else none
   else
    if pc = 10 then some (.iload_n 1, 11, 1, []) else none
  else
   if pc < 12 then
    if pc = 11 then some (.iaload, 12, 0, []) else none
   else
    if pc < 13 then
     if pc = 12 then some (.isub, 13, 0, []) else none
    else
     if pc = 13 then some (.ireturn, 14, 0, []) else none

def mc_X11_isWord (pc : Nat) : Option mE :=
 if pc < 32 then
  if pc < 17 then
   if pc < 7 then
    if pc < 2 then
     if pc < 1 then
      if pc = 0 then some (.aload_n 0, 1, 0, []) else none
     else
      if pc = 1 then some (.iload_n 1, 2, 1, []) else none
    else
     if pc < 5 then
      if pc = 2 then some (.invokevirtual 126, 5, 97, [2, 0, 0, 2, 12, 0, 0]) else none
     else
      if pc = 5 then some (.istore 4, 7, 4, []) else none
   else
    if pc < 10 then
     if pc < 9 then
      if pc = 7 then some (.iload 4, 9, 4, []) else none
     else
      if pc = 9 then some (.iload_n 3, 10, 3, []) else none
    else
     if pc < 13 then
      if pc = 10 then some (.ifCond .ne 7, 13, 17, []) else none
     else
      if pc < 14 then
       if pc = 13 then some (.iconst 1, 14, 0, []) else none
      else
       if pc = 14 then some (.goto 4, 17, 18, []) else none
  else
   if pc < 25 then
    if pc < 21 then
     if pc < 18 then
      if pc = 17 then some (.iconst 2, 18, 0, []) else none
     else
      if pc = 18 then some (.if_icmp .ne 43, 21, 61, []) else none
    else
     if pc < 22 then
      if pc = 21 then some (.aload_n 0, 22, 0, []) else none
     else
      if pc = 22 then some (.getfield 47, 25, 11, [14, 1, 54]) else none
   else
    if pc < 29 then
     if pc < 26 then
      if pc = 25 then some (.aload_n 0, 26, 0, []) else none
     else
      if pc = 26 then some (.getfield 50, 29, 11, [17, 1, 54]) else none
    else
     if pc < 30 then
      if pc = 29 then some (.iload_n 1, 30, 1, []) else none
     else
      if pc < 31 then
       if pc = 30 then some (.iaload, 31, 0, []) else none
      else
       if pc = 31 then some (.caload, 32, 0, []) else none
 else
  if pc < 49 then
   if pc < 40 then
    if pc < 36 then
     if pc < 33 then
      if pc = 32 then some (.iload_n 2, 33, 2, []) else none
     else
      if pc = 33 then some (.if_icmp .ne 28, 36, 61, []) else none
    else
     if pc < 37 then
      if pc = 36 then some (.iload_n 3, 37, 3, []) else none
     else
      if pc = 37 then some (.ifCond .eq 20, 40, 57, []) else none
   else
    if pc < 44 then
     if pc < 41 then
      if pc = 40 then some (.aload_n 0, 41, 0, []) else none
     else
      if pc = 41 then some (.getfield 47, 44, 11, [14, 1, 54]) else none
    else
     if pc < 45 then
      if pc = 44 then some (.aload_n 0, 45, 0, []) else none
     else
      if pc < 48 then
       if pc = 45 then some (.getfield 50, 48, 11, [17, 1, 54]) else none
      else
       if pc = 48 then some (.iload_n 1, 49, 1, []) else none
  else
   if pc < 54 then
    if pc < 51 then
     if pc < 50 then
      if pc = 49 then some (.iaload, 50, 0, []) else none
     else
      if pc = 50 then some (.iconst 1, 51, 0, []) else none
    else
     if pc < 52 then
      if pc = 51 then some (.iadd, 52, 0, []) else none
     else
      if pc < 53 then
       if pc = 52 then some (.caload, 53, 0, []) else none
      else
       if pc = 53 then some (.iload_n 3, 54, 3, []) else none
   else
    if pc < 58 then
     if pc < 57 then
      if pc = 54 then some (.if_icmp .ne 7, 57, 61, []) else none
     else
      if pc = 57 then some (.iconst 1, 58, 0, []) else none
    else
     if pc < 61 then
      if pc = 58 then some (.goto 4, 61, 62, []) else none
     else
      if pc < 62 then
       if pc = 61 then some (.iconst 0, 62, 0, []) else none
      else
       if pc = 62 then some (.ireturn, 63, 2, []) else none

def mc_X11_isSign (pc : Nat) : Option mE :=
 if pc < 24 then
  if pc < 12 then
   if pc < 6 then
    if pc < 1 then
     if pc = 0 then some (.iload_n 0, 1, 0, []) else none
    else
     if pc < 3 then
      if pc = 1 then some (.bipush 97, 3, 0, []) else none
     else
      if pc = 3 then some (.if_icmp .lt 9, 6, 12, []) else none
   else
    if pc < 7 then
     if pc = 6 then some (.iload_n 0, 7, 0, []) else none
    else
     if pc < 9 then
      if pc = 7 then some (.bipush 122, 9, 0, []) else none
     else
      if pc = 9 then some (.if_icmp .le 33, 12, 42, []) else none
  else
   if pc < 18 then
    if pc < 13 then
     if pc = 12 then some (.iload_n 0, 13, 0, []) else none
    else
     if pc < 15 then
      if pc = 13 then some (.bipush 48, 15, 0, []) else none
     else
      if pc = 15 then some (.if_icmp .lt 9, 18, 24, []) else none
   else
    if pc < 19 then
     if pc = 18 then some (.iload_n 0, 19, 0, []) else none
    else
     if pc < 21 then
      if pc = 19 then some (.bipush 57, 21, 0, []) else none
     else
      if pc = 21 then some (.if_icmp .le 21, 24, 42, []) else none
 else
  if pc < 36 then
   if pc < 30 then
    if pc < 25 then
     if pc = 24 then some (.iload_n 0, 25, 0, []) else none
    else
     if pc < 27 then
      if pc = 25 then some (.bipush 46, 27, 0, []) else none
     else
      if pc = 27 then some (.if_icmp .eq 15, 30, 42, []) else none
   else
    if pc < 31 then
     if pc = 30 then some (.iload_n 0, 31, 0, []) else none
    else
     if pc < 33 then
      if pc = 31 then some (.bipush 95, 33, 0, []) else none
     else
      if pc = 33 then some (.if_icmp .eq 9, 36, 42, []) else none
  else
   if pc < 42 then
    if pc < 37 then
     if pc = 36 then some (.iload_n 0, 37, 0, []) else none
    else
     if pc < 39 then
      if pc = 37 then some (.bipush 45, 39, 0, []) else none
     else
      if pc = 39 then some (.if_icmp .ne 7, 42, 46, []) else none
   else
    if pc < 46 then
     if pc < 43 then
      if pc = 42 then some (.iconst 1, 43, 0, []) else none
     else
      if pc = 43 then some (.goto 4, 46, 47, []) else none
    else
     if pc < 47 then
      if pc = 46 then some (.iconst 0, 47, 0, []) else none
     else
      if pc = 47 then some (.ireturn, 48, 2, []) else none

def mc_X11_isName (pc : Nat) : Option mE :=
 if pc < 61 then
  if pc < 27 then
   if pc < 10 then
    if pc < 4 then
     if pc < 2 then
      if pc < 1 then
       if pc = 0 then some (.iload_n 2, 1, 2, []) else none
      else
       if pc = 1 then some (.iload_n 1, 2, 1, []) else none
     else
      if pc < 3 then
       if pc = 2 then some (.isub, 3, 0, []) else none
      else
       if pc = 3 then some (.istore_n 3, 4, 3, []) else none
    else
     if pc < 6 then
      if pc < 5 then
       if pc = 4 then some (.iload_n 3, 5, 3, []) else none
      else
       if pc = 5 then some (.iconst 1, 6, 0, []) else none
     else
      if pc < 9 then
       if pc = 6 then some (.if_icmp .lt 13, 9, 19, []) else none
      else
       if pc = 9 then some (.iload_n 3, 10, 3, []) else none
   else
    if pc < 19 then
     if pc < 15 then
      if pc < 12 then
       if pc = 10 then some (.bipush 14, 12, 0, []) else none
      else
       if pc = 12 then some (.if_icmp .gt 7, 15, 19, []) else none
     else
      if pc < 16 then
       if pc = 15 then some (.iconst 1, 16, 0, []) else none
      else
       if pc = 16 then some (.goto 4, 19, 20, []) else none
    else
     if pc < 22 then
      if pc < 20 then
       if pc = 19 then some (.iconst 0, 20, 0, []) else none
      else
       if pc = 20 then some (.istore 4, 22, 4, []) else none
     else
      if pc < 23 then
       if pc = 22 then some (.iload_n 1, 23, 1, []) else none
      else
       if pc = 23 then some (.istore 5, 100025, 5, []) else none
  else
   if pc < 43 then
    if pc < 36 then
     if pc < 31 then
      if pc < 28 then
       if pc = 27 then some (.iload_n 2, 28, 2, []) else none
      else
       if pc = 28 then some (.if_icmp .ge 31, 31, 59, []) else none
     else
      if pc < 33 then
       if pc = 31 then some (.iload 4, 33, 4, []) else none
      else
       if pc = 33 then some (.ifCond .eq 17, 36, 50, []) else none
    else
     if pc < 39 then
      if pc < 37 then
       if pc = 36 then some (.aload_n 0, 37, 0, []) else none
      else
       if pc = 37 then some (.iload 5, 39, 5, []) else none
     else
      if pc < 40 then
       if pc = 39 then some (.caload, 40, 0, []) else none
      else
       if pc = 40 then some (.invokestatic 130, 43, 99, [1, 0, 0, 1]) else none
   else
    if pc < 51 then
     if pc < 47 then
      if pc < 46 then
       if pc = 43 then some (.ifCond .eq 7, 46, 50, []) else none
      else
       if pc = 46 then some (.iconst 1, 47, 0, []) else none
     else
      if pc < 50 then
       if pc = 47 then some (.goto 4, 50, 51, []) else none
      else
       if pc = 50 then some (.iconst 0, 51, 0, []) else none
    else
     if pc < 56 then
      if pc < 53 then
       if pc = 51 then some (.istore 4, 53, 4, []) else none
      else
       if pc = 53 then some (.iinc 5 1, 56, 5, []) else none
     else
      if pc < 59 then
       if pc = 56 then some (.goto (-31), 59, 100025, []) else none
      else
       if pc < 60 then
        if pc = 59 then some (.iload_n 3, 60, 3, []) else none
       else
        if pc = 60 then some (.iconst 1, 61, 0, []) else none
 else
  if pc < 88 then
   if pc < 74 then
    if pc < 67 then
     if pc < 65 then
      if pc < 64 then
       if pc = 61 then some (.if_icmp .ne 11, 64, 72, []) else none
      else
       if pc = 64 then some (.aload_n 0, 65, 0, []) else none
     else
      if pc < 66 then
       if pc = 65 then some (.iload_n 1, 66, 1, []) else none
      else
       if pc = 66 then some (.caload, 67, 0, []) else none
    else
     if pc < 72 then
      if pc < 69 then
       if pc = 67 then some (.bipush 46, 69, 0, []) else none
      else
       if pc = 69 then some (.if_icmp .eq 26, 72, 95, []) else none
     else
      if pc < 73 then
       if pc = 72 then some (.iload_n 3, 73, 3, []) else none
      else
       if pc = 73 then some (.iconst 2, 74, 0, []) else none
   else
    if pc < 80 then
     if pc < 78 then
      if pc < 77 then
       if pc = 74 then some (.if_icmp .ne 25, 77, 99, []) else none
      else
       if pc = 77 then some (.aload_n 0, 78, 0, []) else none
     else
      if pc < 79 then
       if pc = 78 then some (.iload_n 1, 79, 1, []) else none
      else
       if pc = 79 then some (.caload, 80, 0, []) else none
    else
     if pc < 85 then
      if pc < 82 then
       if pc = 80 then some (.bipush 46, 82, 0, []) else none
      else
       if pc = 82 then some (.if_icmp .ne 17, 85, 99, []) else none
     else
      if pc < 86 then
       if pc = 85 then some (.aload_n 0, 86, 0, []) else none
      else
       if pc < 87 then
        if pc = 86 then some (.iload_n 1, 87, 1, []) else none
       else
        if pc = 87 then some (.iconst 1, 88, 0, []) else none
  else
   if pc < 102 then
    if pc < 95 then
     if pc < 90 then
      if pc < 89 then
       if pc = 88 then some (.iadd, 89, 0, []) else none
      else
       if pc = 89 then some (.caload, 90, 0, []) else none
     else
      if pc < 92 then
       if pc = 90 then some (.bipush 46, 92, 0, []) else none
      else
       if pc = 92 then some (.if_icmp .ne 7, 95, 99, []) else none
    else
     if pc < 99 then
      if pc < 96 then
       if pc = 95 then some (.iconst 1, 96, 0, []) else none
      else
       if pc = 96 then some (.goto 4, 99, 100, []) else none
     else
      if pc < 100 then
       if pc = 99 then some (.iconst 0, 100, 0, []) else none
      else
       if pc = 100 then some (.istore 5, 102, 5, []) else none
   else
    if pc < 112 then
     if pc < 107 then
      if pc < 104 then
       if pc = 102 then some (.iload 4, 104, 4, []) else none
      else
       if pc = 104 then some (.ifCond .eq 12, 107, 116, []) else none
     else
      if pc < 109 then
       if pc = 107 then some (.iload 5, 109, 5, []) else none
      else
       if pc = 109 then some (.ifCond .ne 7, 112, 116, []) else none
    else
     if pc < 116 then
      if pc < 113 then
       if pc = 112 then some (.iconst 1, 113, 0, []) else none
      else
       if pc = 113 then some (.goto 4, 116, 117, []) else none
     else
      if pc < 117 then
       if pc = 116 then some (.iconst 0, 117, 0, []) else none
      else
       if pc < 100025 then
        if pc = 117 then some (.ireturn, 118, 2, []) else none
       else
        if pc = 100025 then some (.iload 5, 27, 5, []) else none

def mc_X11_compare (pc : Nat) : Option mE :=
 if pc < 39 then
  if pc < 15 then
   if pc < 8 then
    if pc < 4 then
     if pc < 1 then
      if pc = 0 then some (.aload_n 0, 1, 0, []) else none
     else
      if pc = 1 then some (.getfield 41, 4, 11, [11, 1, 54]) else none
    else
     if pc < 5 then
      if pc = 4 then some (.iload_n 1, 5, 1, []) else none
     else
      if pc < 6 then
       if pc = 5 then some (.iaload, 6, 0, []) else none
      else
       if pc = 6 then some (.istore 5, 8, 5, []) else none
   else
    if pc < 11 then
     if pc < 10 then
      if pc = 8 then some (.iload 4, 10, 4, []) else none
     else
      if pc = 10 then some (.iload_n 3, 11, 3, []) else none
    else
     if pc < 12 then
      if pc = 11 then some (.isub, 12, 0, []) else none
     else
      if pc < 14 then
       if pc = 12 then some (.istore 6, 14, 6, []) else none
      else
       if pc = 14 then some (.iconst 0, 15, 0, []) else none
  else
   if pc < 28 then
    if pc < 21 then
     if pc < 19 then
      if pc = 15 then some (.istore 7, 100017, 7, []) else none
     else
      if pc = 19 then some (.iload 5, 21, 5, []) else none
    else
     if pc < 24 then
      if pc = 21 then some (.if_icmp .ge 45, 24, 66, []) else none
     else
      if pc < 26 then
       if pc = 24 then some (.iload 7, 26, 7, []) else none
      else
       if pc = 26 then some (.iload 6, 28, 6, []) else none
   else
    if pc < 35 then
     if pc < 31 then
      if pc = 28 then some (.if_icmp .ge 38, 31, 66, []) else none
     else
      if pc < 32 then
       if pc = 31 then some (.aload_n 0, 32, 0, []) else none
      else
       if pc = 32 then some (.getfield 44, 35, 11, [12, 1, 54]) else none
    else
     if pc < 37 then
      if pc = 35 then some (.bipush 14, 37, 0, []) else none
     else
      if pc < 38 then
       if pc = 37 then some (.iload_n 1, 38, 1, []) else none
      else
       if pc = 38 then some (.imul, 39, 0, []) else none
 else
  if pc < 52 then
   if pc < 45 then
    if pc < 42 then
     if pc < 41 then
      if pc = 39 then some (.iload 7, 41, 7, []) else none
     else
      if pc = 41 then some (.iadd, 42, 0, []) else none
    else
     if pc < 43 then
      if pc = 42 then some (.caload, 43, 0, []) else none
     else
      if pc < 44 then
       if pc = 43 then some (.aload_n 2, 44, 2, []) else none
      else
       if pc = 44 then some (.iload_n 3, 45, 3, []) else none
   else
    if pc < 48 then
     if pc < 47 then
      if pc = 45 then some (.iload 7, 47, 7, []) else none
     else
      if pc = 47 then some (.iadd, 48, 0, []) else none
    else
     if pc < 49 then
      if pc = 48 then some (.caload, 49, 0, []) else none
     else
      if pc < 50 then
       if pc = 49 then some (.isub, 50, 0, []) else none
      else
       if pc = 50 then some (.istore 8, 52, 8, []) else none
  else
   if pc < 63 then
    if pc < 57 then
     if pc < 54 then
      if pc = 52 then some (.iload 8, 54, 8, []) else none
     else
      if pc = 54 then some (.ifCond .eq 6, 57, 60, []) else none
    else
     if pc < 59 then
      if pc = 57 then some (.iload 8, 59, 8, []) else none
     else
      if pc < 60 then
       if pc = 59 then some (.ireturn, 60, 0, []) else none
      else
       if pc = 60 then some (.iinc 7 1, 63, 7, []) else none
   else
    if pc < 70 then
     if pc < 66 then
      if pc = 63 then some (.goto (-46), 66, 100017, []) else none
     else
      if pc < 68 then
       if pc = 66 then some (.iload 5, 68, 5, []) else none
      else
       if pc = 68 then some (.iload 6, 70, 6, []) else none
    else
     if pc < 71 then
      if pc = 70 then some (.isub, 71, 0, []) else none
     else
      if pc < 100017 then
       if pc = 71 then some (.ireturn, 72, 0, []) else none
      else
       if pc = 100017 then some (.iload 7, 19, 7, []) else none

def mc_X11_nameAt (pc : Nat) : Option mE :=
 if pc < 23 then
  if pc < 14 then
   if pc < 6 then
    if pc < 1 then
     if pc = 0 then some (.iconst 0, 1, 0, []) else none
    else
     if pc < 5 then
      if pc = 1 then some (.istore 5, 100003, 5, []) else none
     else
      if pc = 5 then some (.aload_n 0, 6, 0, []) else none
   else
    if pc < 10 then
     if pc < 9 then
      if pc = 6 then some (.getfield 35, 9, 11, [9, 1, 54]) else none
     else
      if pc = 9 then some (.iload_n 1, 10, 1, []) else none
    else
     if pc < 11 then
      if pc = 10 then some (.iaload, 11, 0, []) else none
     else
      if pc = 11 then some (.if_icmp .ge 35, 14, 46, []) else none
  else
   if pc < 18 then
    if pc < 15 then
     if pc = 14 then some (.aload_n 0, 15, 0, []) else none
    else
     if pc < 17 then
      if pc = 15 then some (.bipush 12, 17, 0, []) else none
     else
      if pc = 17 then some (.iload_n 1, 18, 1, []) else none
   else
    if pc < 21 then
     if pc < 19 then
      if pc = 18 then some (.imul, 19, 0, []) else none
     else
      if pc = 19 then some (.iload 5, 21, 5, []) else none
    else
     if pc < 22 then
      if pc = 21 then some (.iadd, 22, 0, []) else none
     else
      if pc = 22 then some (.aload_n 2, 23, 2, []) else none
 else
  if pc < 36 then
   if pc < 29 then
    if pc < 24 then
     if pc = 23 then some (.iload_n 3, 24, 3, []) else none
    else
     if pc < 26 then
      if pc = 24 then some (.iload 4, 26, 4, []) else none
     else
      if pc = 26 then some (.invokevirtual 134, 29, 101, [5, 0, 0, 9, 12, 0, 0]) else none
   else
    if pc < 34 then
     if pc < 32 then
      if pc = 29 then some (.ifCond .ne 11, 32, 40, []) else none
     else
      if pc = 32 then some (.bipush 12, 34, 0, []) else none
    else
     if pc < 35 then
      if pc = 34 then some (.iload_n 1, 35, 1, []) else none
     else
      if pc = 35 then some (.imul, 36, 0, []) else none
  else
   if pc < 43 then
    if pc < 39 then
     if pc < 38 then
      if pc = 36 then some (.iload 5, 38, 5, []) else none
     else
      if pc = 38 then some (.iadd, 39, 0, []) else none
    else
     if pc < 40 then
      if pc = 39 then some (.ireturn, 40, 0, []) else none
     else
      if pc = 40 then some (.iinc 5 1, 43, 5, []) else none
   else
    if pc < 47 then
     if pc < 46 then
      if pc = 43 then some (.goto (-40), 46, 100003, []) else none
     else
      if pc = 46 then some (.iconst (-1), 47, 0, []) else none
    else
     if pc < 100003 then
      if pc = 47 then some (.ireturn, 48, 0, []) else none
     else
      if pc = 100003 then some (.iload 5, 5, 5, []) else none

def mc_X11_addName (pc : Nat) : Option mE :=
 if pc < 38 then
  if pc < 18 then
   if pc < 9 then
    if pc < 4 then
     if pc < 2 then
      if pc = 0 then some (.bipush 12, 2, 0, []) else none
     else
      if pc < 3 then
       if pc = 2 then some (.iload_n 1, 3, 1, []) else none
      else
       if pc = 3 then some (.imul, 4, 0, []) else none
    else
     if pc < 5 then
      if pc = 4 then some (.aload_n 0, 5, 0, []) else none
     else
      if pc < 8 then
       if pc = 5 then some (.getfield 35, 8, 11, [9, 1, 54]) else none
      else
       if pc = 8 then some (.iload_n 1, 9, 1, []) else none
   else
    if pc < 13 then
     if pc < 10 then
      if pc = 9 then some (.iaload, 10, 0, []) else none
     else
      if pc < 11 then
       if pc = 10 then some (.iadd, 11, 0, []) else none
      else
       if pc = 11 then some (.istore 6, 13, 6, []) else none
    else
     if pc < 14 then
      if pc = 13 then some (.aload_n 0, 14, 0, []) else none
     else
      if pc < 17 then
       if pc = 14 then some (.getfield 35, 17, 11, [9, 1, 54]) else none
      else
       if pc = 17 then some (.iload_n 1, 18, 1, []) else none
  else
   if pc < 24 then
    if pc < 21 then
     if pc < 19 then
      if pc = 18 then some (.dup2, 19, 0, []) else none
     else
      if pc < 20 then
       if pc = 19 then some (.iaload, 20, 0, []) else none
      else
       if pc = 20 then some (.iconst 1, 21, 0, []) else none
    else
     if pc < 22 then
      if pc = 21 then some (.iadd, 22, 0, []) else none
     else
      if pc < 23 then
       if pc = 22 then some (.iastore, 23, 0, []) else none
      else
       if pc = 23 then some (.aload_n 0, 24, 0, []) else none
   else
    if pc < 31 then
     if pc < 27 then
      if pc = 24 then some (.getfield 38, 27, 11, [10, 1, 54]) else none
     else
      if pc < 29 then
       if pc = 27 then some (.iload 6, 29, 6, []) else none
      else
       if pc = 29 then some (.iload 5, 31, 5, []) else none
    else
     if pc < 33 then
      if pc < 32 then
       if pc = 31 then some (.iastore, 32, 0, []) else none
      else
       if pc = 32 then some (.aload_n 0, 33, 0, []) else none
     else
      if pc < 36 then
       if pc = 33 then some (.getfield 41, 36, 11, [11, 1, 54]) else none
      else
       if pc = 36 then some (.iload 6, 38, 6, []) else none
 else
  if pc < 61 then
   if pc < 48 then
    if pc < 42 then
     if pc < 40 then
      if pc = 38 then some (.iload 4, 40, 4, []) else none
     else
      if pc < 41 then
       if pc = 40 then some (.iload_n 3, 41, 3, []) else none
      else
       if pc = 41 then some (.isub, 42, 0, []) else none
    else
     if pc < 43 then
      if pc = 42 then some (.iastore, 43, 0, []) else none
     else
      if pc < 44 then
       if pc = 43 then some (.iload_n 3, 44, 3, []) else none
      else
       if pc = 44 then some (.istore 7, 100046, 7, []) else none
   else
    if pc < 54 then
     if pc < 50 then
      if pc = 48 then some (.iload 4, 50, 4, []) else none
     else
      if pc < 53 then
       if pc = 50 then some (.if_icmp .ge 28, 53, 78, []) else none
      else
       if pc = 53 then some (.aload_n 0, 54, 0, []) else none
    else
     if pc < 57 then
      if pc = 54 then some (.getfield 44, 57, 11, [12, 1, 54]) else none
     else
      if pc < 59 then
       if pc = 57 then some (.bipush 14, 59, 0, []) else none
      else
       if pc = 59 then some (.iload 6, 61, 6, []) else none
  else
   if pc < 68 then
    if pc < 65 then
     if pc < 62 then
      if pc = 61 then some (.imul, 62, 0, []) else none
     else
      if pc < 64 then
       if pc = 62 then some (.iload 7, 64, 7, []) else none
      else
       if pc = 64 then some (.iadd, 65, 0, []) else none
    else
     if pc < 66 then
      if pc = 65 then some (.iload_n 3, 66, 3, []) else none
     else
      if pc < 67 then
       if pc = 66 then some (.isub, 67, 0, []) else none
      else
       if pc = 67 then some (.aload_n 2, 68, 2, []) else none
   else
    if pc < 72 then
     if pc < 70 then
      if pc = 68 then some (.iload 7, 70, 7, []) else none
     else
      if pc < 71 then
       if pc = 70 then some (.caload, 71, 0, []) else none
      else
       if pc = 71 then some (.castore, 72, 0, []) else none
    else
     if pc < 78 then
      if pc < 75 then
       if pc = 72 then some (.iinc 7 1, 75, 7, []) else none
      else
       if pc = 75 then some (.goto (-29), 78, 100046, []) else none
     else
      if pc < 100046 then
       if pc = 78 then some (.return_, 79, 0, []) else none
      else
       if pc = 100046 then some (.iload 7, 48, 7, []) else none

def mc_X11_removeName (pc : Nat) : Option mE :=
 if pc < 41 then
  if pc < 19 then
   if pc < 9 then
    if pc < 4 then
     if pc < 1 then
      if pc = 0 then some (.iload_n 1, 1, 1, []) else none
     else
      if pc < 3 then
       if pc = 1 then some (.bipush 12, 3, 0, []) else none
      else
       if pc = 3 then some (.idiv, 4, 0, []) else none
    else
     if pc < 7 then
      if pc < 5 then
       if pc = 4 then some (.istore_n 2, 5, 2, []) else none
      else
       if pc = 5 then some (.bipush 12, 7, 0, []) else none
     else
      if pc < 8 then
       if pc = 7 then some (.iload_n 2, 8, 2, []) else none
      else
       if pc = 8 then some (.imul, 9, 0, []) else none
   else
    if pc < 15 then
     if pc < 13 then
      if pc < 10 then
       if pc = 9 then some (.aload_n 0, 10, 0, []) else none
      else
       if pc = 10 then some (.getfield 35, 13, 11, [9, 1, 54]) else none
     else
      if pc < 14 then
       if pc = 13 then some (.iload_n 2, 14, 2, []) else none
      else
       if pc = 14 then some (.iaload, 15, 0, []) else none
    else
     if pc < 17 then
      if pc < 16 then
       if pc = 15 then some (.iadd, 16, 0, []) else none
      else
       if pc = 16 then some (.iconst 1, 17, 0, []) else none
     else
      if pc < 18 then
       if pc = 17 then some (.isub, 18, 0, []) else none
      else
       if pc = 18 then some (.istore_n 3, 19, 3, []) else none
  else
   if pc < 29 then
    if pc < 25 then
     if pc < 23 then
      if pc < 20 then
       if pc = 19 then some (.aload_n 0, 20, 0, []) else none
      else
       if pc = 20 then some (.getfield 35, 23, 11, [9, 1, 54]) else none
     else
      if pc < 24 then
       if pc = 23 then some (.iload_n 2, 24, 2, []) else none
      else
       if pc = 24 then some (.dup2, 25, 0, []) else none
    else
     if pc < 27 then
      if pc < 26 then
       if pc = 25 then some (.iaload, 26, 0, []) else none
      else
       if pc = 26 then some (.iconst 1, 27, 0, []) else none
     else
      if pc < 28 then
       if pc = 27 then some (.isub, 28, 0, []) else none
      else
       if pc = 28 then some (.iastore, 29, 0, []) else none
   else
    if pc < 35 then
     if pc < 33 then
      if pc < 30 then
       if pc = 29 then some (.aload_n 0, 30, 0, []) else none
      else
       if pc = 30 then some (.getfield 38, 33, 11, [10, 1, 54]) else none
     else
      if pc < 34 then
       if pc = 33 then some (.iload_n 1, 34, 1, []) else none
      else
       if pc = 34 then some (.aload_n 0, 35, 0, []) else none
    else
     if pc < 39 then
      if pc < 38 then
       if pc = 35 then some (.getfield 38, 38, 11, [10, 1, 54]) else none
      else
       if pc = 38 then some (.iload_n 3, 39, 3, []) else none
     else
      if pc < 40 then
       if pc = 39 then some (.iaload, 40, 0, []) else none
      else
       if pc = 40 then some (.iastore, 41, 0, []) else none
 else
  if pc < 70 then
   if pc < 53 then
    if pc < 47 then
     if pc < 45 then
      if pc < 42 then
       if pc = 41 then some (.aload_n 0, 42, 0, []) else none
      else
       if pc = 42 then some (.getfield 41, 45, 11, [11, 1, 54]) else none
     else
      if pc < 46 then
       if pc = 45 then some (.iload_n 1, 46, 1, []) else none
      else
       if pc = 46 then some (.aload_n 0, 47, 0, []) else none
    else
     if pc < 51 then
      if pc < 50 then
       if pc = 47 then some (.getfield 41, 50, 11, [11, 1, 54]) else none
      else
       if pc = 50 then some (.iload_n 3, 51, 3, []) else none
     else
      if pc < 52 then
       if pc = 51 then some (.iaload, 52, 0, []) else none
      else
       if pc = 52 then some (.iastore, 53, 0, []) else none
   else
    if pc < 63 then
     if pc < 58 then
      if pc < 54 then
       if pc = 53 then some (.iconst 0, 54, 0, []) else none
      else
       if pc = 54 then some (.istore 4, 100056, 4, []) else none
     else
      if pc < 60 then
       if pc = 58 then some (.bipush 14, 60, 0, []) else none
      else
       if pc = 60 then some (.if_icmp .ge 33, 63, 93, []) else none
    else
     if pc < 67 then
      if pc < 64 then
       if pc = 63 then some (.aload_n 0, 64, 0, []) else none
      else
       if pc = 64 then some (.getfield 44, 67, 11, [12, 1, 54]) else none
     else
      if pc < 69 then
       if pc = 67 then some (.bipush 14, 69, 0, []) else none
      else
       if pc = 69 then some (.iload_n 1, 70, 1, []) else none
  else
   if pc < 82 then
    if pc < 75 then
     if pc < 73 then
      if pc < 71 then
       if pc = 70 then some (.imul, 71, 0, []) else none
      else
       if pc = 71 then some (.iload 4, 73, 4, []) else none
     else
      if pc < 74 then
       if pc = 73 then some (.iadd, 74, 0, []) else none
      else
       if pc = 74 then some (.aload_n 0, 75, 0, []) else none
    else
     if pc < 80 then
      if pc < 78 then
       if pc = 75 then some (.getfield 44, 78, 11, [12, 1, 54]) else none
      else
       if pc = 78 then some (.bipush 14, 80, 0, []) else none
     else
      if pc < 81 then
       if pc = 80 then some (.iload_n 3, 81, 3, []) else none
      else
       if pc = 81 then some (.imul, 82, 0, []) else none
   else
    if pc < 87 then
     if pc < 85 then
      if pc < 84 then
       if pc = 82 then some (.iload 4, 84, 4, []) else none
      else
       if pc = 84 then some (.iadd, 85, 0, []) else none
     else
      if pc < 86 then
       if pc = 85 then some (.caload, 86, 0, []) else none
      else
       if pc = 86 then some (.castore, 87, 0, []) else none
    else
     if pc < 93 then
      if pc < 90 then
       if pc = 87 then some (.iinc 4 1, 90, 4, []) else none
      else
       if pc = 90 then some (.goto (-34), 93, 100056, []) else none
     else
      if pc < 100056 then
       if pc = 93 then some (.return_, 94, 0, []) else none
      else
       if pc = 100056 then some (.iload 4, 58, 4, []) else none

def mc_X11_layWay (pc : Nat) : Option mE :=
 if pc < 21 then
  if pc < 8 then
   if pc < 3 then
    if pc < 1 then
     if pc = 0 then some (.aload_n 0, 1, 0, []) else none
    else
     if pc < 2 then
      if pc = 1 then some (.iload_n 2, 2, 2, []) else none
     else
      if pc = 2 then some (.iload_n 1, 3, 1, []) else none
   else
    if pc < 4 then
     if pc = 3 then some (.isub, 4, 0, []) else none
    else
     if pc < 7 then
      if pc = 4 then some (.putfield 138, 7, 11, [25, 0, 54]) else none
     else
      if pc = 7 then some (.iconst 0, 8, 0, []) else none
  else
   if pc < 14 then
    if pc < 10 then
     if pc = 8 then some (.istore_n 3, 100009, 3, []) else none
    else
     if pc < 11 then
      if pc = 10 then some (.aload_n 0, 11, 0, []) else none
     else
      if pc = 11 then some (.getfield 138, 14, 11, [25, 0, 54]) else none
   else
    if pc < 17 then
     if pc = 14 then some (.if_icmp .ge 23, 17, 37, []) else none
    else
     if pc < 18 then
      if pc = 17 then some (.aload_n 0, 18, 0, []) else none
     else
      if pc = 18 then some (.getfield 63, 21, 11, [23, 1, 54]) else none
 else
  if pc < 29 then
   if pc < 26 then
    if pc < 22 then
     if pc = 21 then some (.iload_n 3, 22, 3, []) else none
    else
     if pc < 23 then
      if pc = 22 then some (.aload_n 0, 23, 0, []) else none
     else
      if pc = 23 then some (.getfield 47, 26, 11, [14, 1, 54]) else none
   else
    if pc < 27 then
     if pc = 26 then some (.iload_n 1, 27, 1, []) else none
    else
     if pc < 28 then
      if pc = 27 then some (.iload_n 3, 28, 3, []) else none
     else
      if pc = 28 then some (.iadd, 29, 0, []) else none
  else
   if pc < 34 then
    if pc < 30 then
     if pc = 29 then some (.caload, 30, 0, []) else none
    else
     if pc < 31 then
      if pc = 30 then some (.castore, 31, 0, []) else none
     else
      if pc = 31 then some (.iinc 3 1, 34, 3, []) else none
   else
    if pc < 37 then
     if pc = 34 then some (.goto (-25), 37, 100009, []) else none
    else
     if pc < 100009 then
      if pc = 37 then some (.return_, 38, 0, []) else none
     else
      if pc = 100009 then some (.iload_n 3, 10, 3, []) else none

def mc_X11_layText (pc : Nat) : Option mE :=
 if pc < 65 then
  if pc < 31 then
   if pc < 13 then
    if pc < 6 then
     if pc < 4 then
      if pc < 1 then
       if pc = 0 then some (.aload_n 0, 1, 0, []) else none
      else
       if pc = 1 then some (.getfield 28, 4, 11, [7, 1, 54]) else none
     else
      if pc < 5 then
       if pc = 4 then some (.iload_n 1, 5, 1, []) else none
      else
       if pc = 5 then some (.iaload, 6, 0, []) else none
    else
     if pc < 8 then
      if pc < 7 then
       if pc = 6 then some (.istore_n 3, 7, 3, []) else none
      else
       if pc = 7 then some (.iload_n 2, 8, 2, []) else none
     else
      if pc < 12 then
       if pc = 8 then some (.istore 4, 100010, 4, []) else none
      else
       if pc = 12 then some (.aload_n 0, 13, 0, []) else none
   else
    if pc < 23 then
     if pc < 19 then
      if pc < 16 then
       if pc = 13 then some (.getfield 138, 16, 11, [25, 0, 54]) else none
      else
       if pc = 16 then some (.if_icmp .ge 25, 19, 41, []) else none
     else
      if pc < 20 then
       if pc = 19 then some (.aload_n 0, 20, 0, []) else none
      else
       if pc = 20 then some (.getfield 66, 23, 11, [24, 1, 54]) else none
    else
     if pc < 26 then
      if pc < 25 then
       if pc = 23 then some (.iload 4, 25, 4, []) else none
      else
       if pc = 25 then some (.iload_n 2, 26, 2, []) else none
     else
      if pc < 27 then
       if pc = 26 then some (.isub, 27, 0, []) else none
      else
       if pc < 28 then
        if pc = 27 then some (.aload_n 0, 28, 0, []) else none
       else
        if pc = 28 then some (.getfield 63, 31, 11, [23, 1, 54]) else none
  else
   if pc < 47 then
    if pc < 38 then
     if pc < 34 then
      if pc < 33 then
       if pc = 31 then some (.iload 4, 33, 4, []) else none
      else
       if pc = 33 then some (.caload, 34, 0, []) else none
     else
      if pc < 35 then
       if pc = 34 then some (.castore, 35, 0, []) else none
      else
       if pc = 35 then some (.iinc 4 1, 38, 4, []) else none
    else
     if pc < 42 then
      if pc < 41 then
       if pc = 38 then some (.goto (-28), 41, 100010, []) else none
      else
       if pc = 41 then some (.aload_n 0, 42, 0, []) else none
     else
      if pc < 45 then
       if pc = 42 then some (.getfield 138, 45, 11, [25, 0, 54]) else none
      else
       if pc < 46 then
        if pc = 45 then some (.iload_n 2, 46, 2, []) else none
       else
        if pc = 46 then some (.isub, 47, 0, []) else none
   else
    if pc < 55 then
     if pc < 50 then
      if pc < 49 then
       if pc = 47 then some (.istore 4, 49, 4, []) else none
      else
       if pc = 49 then some (.iconst 0, 50, 0, []) else none
     else
      if pc < 54 then
       if pc = 50 then some (.istore 5, 100052, 5, []) else none
      else
       if pc = 54 then some (.iload_n 3, 55, 3, []) else none
    else
     if pc < 59 then
      if pc < 58 then
       if pc = 55 then some (.if_icmp .ge 28, 58, 83, []) else none
      else
       if pc = 58 then some (.aload_n 0, 59, 0, []) else none
     else
      if pc < 62 then
       if pc = 59 then some (.getfield 63, 62, 11, [23, 1, 54]) else none
      else
       if pc < 64 then
        if pc = 62 then some (.iload 5, 64, 5, []) else none
       else
        if pc = 64 then some (.aload_n 0, 65, 0, []) else none
 else
  if pc < 98 then
   if pc < 77 then
    if pc < 72 then
     if pc < 70 then
      if pc < 68 then
       if pc = 65 then some (.getfield 31, 68, 11, [8, 1, 54]) else none
      else
       if pc = 68 then some (.bipush 40, 70, 0, []) else none
     else
      if pc < 71 then
       if pc = 70 then some (.iload_n 1, 71, 1, []) else none
      else
       if pc = 71 then some (.imul, 72, 0, []) else none
    else
     if pc < 75 then
      if pc < 74 then
       if pc = 72 then some (.iload 5, 74, 5, []) else none
      else
       if pc = 74 then some (.iadd, 75, 0, []) else none
     else
      if pc < 76 then
       if pc = 75 then some (.caload, 76, 0, []) else none
      else
       if pc = 76 then some (.castore, 77, 0, []) else none
   else
    if pc < 88 then
     if pc < 83 then
      if pc < 80 then
       if pc = 77 then some (.iinc 5 1, 80, 5, []) else none
      else
       if pc = 80 then some (.goto (-28), 83, 100052, []) else none
     else
      if pc < 84 then
       if pc = 83 then some (.iconst 0, 84, 0, []) else none
      else
       if pc = 84 then some (.istore 5, 100086, 5, []) else none
    else
     if pc < 93 then
      if pc < 90 then
       if pc = 88 then some (.iload 4, 90, 4, []) else none
      else
       if pc = 90 then some (.if_icmp .ge 25, 93, 115, []) else none
     else
      if pc < 94 then
       if pc = 93 then some (.aload_n 0, 94, 0, []) else none
      else
       if pc < 97 then
        if pc = 94 then some (.getfield 63, 97, 11, [23, 1, 54]) else none
       else
        if pc = 97 then some (.iload_n 3, 98, 3, []) else none
  else
   if pc < 115 then
    if pc < 105 then
     if pc < 101 then
      if pc < 100 then
       if pc = 98 then some (.iload 5, 100, 5, []) else none
      else
       if pc = 100 then some (.iadd, 101, 0, []) else none
     else
      if pc < 102 then
       if pc = 101 then some (.aload_n 0, 102, 0, []) else none
      else
       if pc = 102 then some (.getfield 66, 105, 11, [24, 1, 54]) else none
    else
     if pc < 108 then
      if pc < 107 then
       if pc = 105 then some (.iload 5, 107, 5, []) else none
      else
       if pc = 107 then some (.caload, 108, 0, []) else none
     else
      if pc < 109 then
       if pc = 108 then some (.castore, 109, 0, []) else none
      else
       if pc < 112 then
        if pc = 109 then some (.iinc 5 1, 112, 5, []) else none
       else
        if pc = 112 then some (.goto (-26), 115, 100086, []) else none
   else
    if pc < 120 then
     if pc < 117 then
      if pc < 116 then
       if pc = 115 then some (.aload_n 0, 116, 0, []) else none
      else
       if pc = 116 then some (.iload_n 3, 117, 3, []) else none
     else
      if pc < 119 then
       if pc = 117 then some (.iload 4, 119, 4, []) else none
      else
       if pc = 119 then some (.iadd, 120, 0, []) else none
    else
     if pc < 100010 then
      if pc < 123 then
       if pc = 120 then some (.putfield 138, 123, 11, [25, 0, 54]) else none
      else
       if pc = 123 then some (.return_, 124, 0, []) else none
     else
      if pc < 100052 then
       if pc = 100010 then some (.iload 4, 12, 4, []) else none
      else
       if pc < 100086 then
        if pc = 100052 then some (.iload 5, 54, 5, []) else none
       else
        if pc = 100086 then some (.iload 5, 88, 5, []) else none

def mc_X11_walk (pc : Nat) : Option mE :=
 if pc < 188 then
  if pc < 96 then
   if pc < 43 then
    if pc < 21 then
     if pc < 12 then
      if pc < 5 then
       if pc < 1 then
        if pc = 0 then some (.aload_n 0, 1, 0, []) else none
       else
        if pc < 2 then
         if pc = 1 then some (.iconst (-1), 2, 0, []) else none
        else
         if pc = 2 then some (.putfield 141, 5, 11, [26, 0, 54]) else none
      else
       if pc < 6 then
        if pc = 5 then some (.aload_n 0, 6, 0, []) else none
       else
        if pc < 9 then
         if pc = 6 then some (.getfield 138, 9, 11, [25, 0, 54]) else none
        else
         if pc = 9 then some (.ifCond .ne 6, 12, 15, []) else none
     else
      if pc < 16 then
       if pc < 14 then
        if pc = 12 then some (.bipush (-2), 14, 0, []) else none
       else
        if pc < 15 then
         if pc = 14 then some (.ireturn, 15, 0, []) else none
        else
         if pc = 15 then some (.aload_n 0, 16, 0, []) else none
      else
       if pc < 19 then
        if pc = 16 then some (.getfield 63, 19, 11, [23, 1, 54]) else none
       else
        if pc < 20 then
         if pc = 19 then some (.iconst 0, 20, 0, []) else none
        else
         if pc = 20 then some (.caload, 21, 0, []) else none
    else
     if pc < 34 then
      if pc < 27 then
       if pc < 23 then
        if pc = 21 then some (.bipush 47, 23, 0, []) else none
       else
        if pc < 26 then
         if pc = 23 then some (.if_icmp .ne 7, 26, 30, []) else none
        else
         if pc = 26 then some (.iconst 0, 27, 0, []) else none
      else
       if pc < 30 then
        if pc = 27 then some (.goto 7, 30, 34, []) else none
       else
        if pc < 31 then
         if pc = 30 then some (.aload_n 0, 31, 0, []) else none
        else
         if pc = 31 then some (.getfield 144, 34, 11, [13, 0, 54]) else none
     else
      if pc < 37 then
       if pc < 35 then
        if pc = 34 then some (.istore_n 2, 35, 2, []) else none
       else
        if pc < 36 then
         if pc = 35 then some (.iconst 0, 36, 0, []) else none
        else
         if pc = 36 then some (.istore_n 3, 37, 3, []) else none
      else
       if pc < 38 then
        if pc = 37 then some (.iconst 0, 38, 0, []) else none
       else
        if pc < 42 then
         if pc = 38 then some (.istore 4, 100040, 4, []) else none
        else
         if pc = 42 then some (.aload_n 0, 43, 0, []) else none
   else
    if pc < 70 then
     if pc < 56 then
      if pc < 50 then
       if pc < 46 then
        if pc = 43 then some (.getfield 138, 46, 11, [25, 0, 54]) else none
       else
        if pc < 49 then
         if pc = 46 then some (.if_icmp .ge 21, 49, 67, []) else none
        else
         if pc = 49 then some (.aload_n 0, 50, 0, []) else none
      else
       if pc < 53 then
        if pc = 50 then some (.getfield 63, 53, 11, [23, 1, 54]) else none
       else
        if pc < 55 then
         if pc = 53 then some (.iload 4, 55, 4, []) else none
        else
         if pc = 55 then some (.caload, 56, 0, []) else none
     else
      if pc < 64 then
       if pc < 58 then
        if pc = 56 then some (.bipush 47, 58, 0, []) else none
       else
        if pc < 61 then
         if pc = 58 then some (.if_icmp .ne 9, 61, 67, []) else none
        else
         if pc = 61 then some (.iinc 4 1, 64, 4, []) else none
      else
       if pc < 67 then
        if pc = 64 then some (.goto (-24), 67, 100040, []) else none
       else
        if pc < 69 then
         if pc = 67 then some (.iload 4, 69, 4, []) else none
        else
         if pc = 69 then some (.aload_n 0, 70, 0, []) else none
    else
     if pc < 84 then
      if pc < 77 then
       if pc < 73 then
        if pc = 70 then some (.getfield 138, 73, 11, [25, 0, 54]) else none
       else
        if pc < 76 then
         if pc = 73 then some (.if_icmp .ne 35, 76, 108, []) else none
        else
         if pc = 76 then some (.aload_n 0, 77, 0, []) else none
      else
       if pc < 80 then
        if pc = 77 then some (.getfield 63, 80, 11, [23, 1, 54]) else none
       else
        if pc < 81 then
         if pc = 80 then some (.aload_n 0, 81, 0, []) else none
        else
         if pc = 81 then some (.getfield 138, 84, 11, [25, 0, 54]) else none
     else
      if pc < 87 then
       if pc < 85 then
        if pc = 84 then some (.iconst 1, 85, 0, []) else none
       else
        if pc < 86 then
         if pc = 85 then some (.isub, 86, 0, []) else none
        else
         if pc = 86 then some (.caload, 87, 0, []) else none
      else
       if pc < 92 then
        if pc < 89 then
         if pc = 87 then some (.bipush 47, 89, 0, []) else none
        else
         if pc = 89 then some (.if_icmp .ne 17, 92, 106, []) else none
       else
        if pc < 93 then
         if pc = 92 then some (.aload_n 0, 93, 0, []) else none
        else
         if pc = 93 then some (.getfield 7, 96, 11, [1, 1, 54]) else none
  else
   if pc < 145 then
    if pc < 121 then
     if pc < 107 then
      if pc < 101 then
       if pc < 97 then
        if pc = 96 then some (.iload_n 2, 97, 2, []) else none
       else
        if pc < 98 then
         if pc = 97 then some (.iaload, 98, 0, []) else none
        else
         if pc = 98 then some (.ifCond .eq 8, 101, 106, []) else none
      else
       if pc < 103 then
        if pc = 101 then some (.bipush (-3), 103, 0, []) else none
       else
        if pc < 106 then
         if pc = 103 then some (.goto 4, 106, 107, []) else none
        else
         if pc = 106 then some (.iload_n 2, 107, 2, []) else none
     else
      if pc < 114 then
       if pc < 108 then
        if pc = 107 then some (.ireturn, 108, 0, []) else none
       else
        if pc < 110 then
         if pc = 108 then some (.iload 4, 110, 4, []) else none
        else
         if pc = 110 then some (.istore 5, 100112, 5, []) else none
      else
       if pc < 115 then
        if pc = 114 then some (.aload_n 0, 115, 0, []) else none
       else
        if pc < 118 then
         if pc = 115 then some (.getfield 138, 118, 11, [25, 0, 54]) else none
        else
         if pc = 118 then some (.if_icmp .ge 21, 121, 139, []) else none
    else
     if pc < 133 then
      if pc < 127 then
       if pc < 122 then
        if pc = 121 then some (.aload_n 0, 122, 0, []) else none
       else
        if pc < 125 then
         if pc = 122 then some (.getfield 63, 125, 11, [23, 1, 54]) else none
        else
         if pc = 125 then some (.iload 5, 127, 5, []) else none
      else
       if pc < 128 then
        if pc = 127 then some (.caload, 128, 0, []) else none
       else
        if pc < 130 then
         if pc = 128 then some (.bipush 47, 130, 0, []) else none
        else
         if pc = 130 then some (.if_icmp .eq 9, 133, 139, []) else none
     else
      if pc < 140 then
       if pc < 136 then
        if pc = 133 then some (.iinc 5 1, 136, 5, []) else none
       else
        if pc < 139 then
         if pc = 136 then some (.goto (-24), 139, 100112, []) else none
        else
         if pc = 139 then some (.aload_n 0, 140, 0, []) else none
      else
       if pc < 143 then
        if pc = 140 then some (.getfield 7, 143, 11, [1, 1, 54]) else none
       else
        if pc < 144 then
         if pc = 143 then some (.iload_n 2, 144, 2, []) else none
        else
         if pc = 144 then some (.iaload, 145, 0, []) else none
   else
    if pc < 165 then
     if pc < 156 then
      if pc < 151 then
       if pc < 148 then
        if pc = 145 then some (.ifCond .eq 6, 148, 151, []) else none
       else
        if pc < 150 then
         if pc = 148 then some (.bipush (-3), 150, 0, []) else none
        else
         if pc = 150 then some (.ireturn, 151, 0, []) else none
      else
       if pc < 152 then
        if pc = 151 then some (.aload_n 0, 152, 0, []) else none
       else
        if pc < 155 then
         if pc = 152 then some (.getfield 22, 155, 11, [5, 1, 54]) else none
        else
         if pc = 155 then some (.iload_n 2, 156, 2, []) else none
     else
      if pc < 159 then
       if pc < 157 then
        if pc = 156 then some (.iaload, 157, 0, []) else none
       else
        if pc < 158 then
         if pc = 157 then some (.iconst 1, 158, 0, []) else none
        else
         if pc = 158 then some (.iand, 159, 0, []) else none
      else
       if pc < 162 then
        if pc = 159 then some (.ifCond .ne 6, 162, 165, []) else none
       else
        if pc < 164 then
         if pc = 162 then some (.bipush (-4), 164, 0, []) else none
        else
         if pc = 164 then some (.ireturn, 165, 0, []) else none
    else
     if pc < 175 then
      if pc < 170 then
       if pc < 167 then
        if pc = 165 then some (.iload 5, 167, 5, []) else none
       else
        if pc < 169 then
         if pc = 167 then some (.iload 4, 169, 4, []) else none
        else
         if pc = 169 then some (.iconst 1, 170, 0, []) else none
      else
       if pc < 171 then
        if pc = 170 then some (.iadd, 171, 0, []) else none
       else
        if pc < 174 then
         if pc = 171 then some (.if_icmp .ne 27, 174, 198, []) else none
        else
         if pc = 174 then some (.aload_n 0, 175, 0, []) else none
     else
      if pc < 181 then
       if pc < 178 then
        if pc = 175 then some (.getfield 63, 178, 11, [23, 1, 54]) else none
       else
        if pc < 180 then
         if pc = 178 then some (.iload 4, 180, 4, []) else none
        else
         if pc = 180 then some (.caload, 181, 0, []) else none
      else
       if pc < 186 then
        if pc < 183 then
         if pc = 181 then some (.bipush 46, 183, 0, []) else none
        else
         if pc = 183 then some (.if_icmp .ne 15, 186, 198, []) else none
       else
        if pc < 187 then
         if pc = 186 then some (.aload_n 0, 187, 0, []) else none
        else
         if pc = 187 then some (.iconst (-1), 188, 0, []) else none
 else
  if pc < 281 then
   if pc < 234 then
    if pc < 213 then
     if pc < 202 then
      if pc < 195 then
       if pc < 191 then
        if pc = 188 then some (.putfield 141, 191, 11, [26, 0, 54]) else none
       else
        if pc < 193 then
         if pc = 191 then some (.iload 5, 193, 5, []) else none
        else
         if pc = 193 then some (.istore 4, 195, 4, []) else none
      else
       if pc < 198 then
        if pc = 195 then some (.goto 174, 198, 369, []) else none
       else
        if pc < 200 then
         if pc = 198 then some (.iload 5, 200, 5, []) else none
        else
         if pc = 200 then some (.iload 4, 202, 4, []) else none
     else
      if pc < 207 then
       if pc < 203 then
        if pc = 202 then some (.iconst 2, 203, 0, []) else none
       else
        if pc < 204 then
         if pc = 203 then some (.iadd, 204, 0, []) else none
        else
         if pc = 204 then some (.if_icmp .ne 48, 207, 252, []) else none
      else
       if pc < 208 then
        if pc = 207 then some (.aload_n 0, 208, 0, []) else none
       else
        if pc < 211 then
         if pc = 208 then some (.getfield 63, 211, 11, [23, 1, 54]) else none
        else
         if pc = 211 then some (.iload 4, 213, 4, []) else none
    else
     if pc < 225 then
      if pc < 219 then
       if pc < 214 then
        if pc = 213 then some (.caload, 214, 0, []) else none
       else
        if pc < 216 then
         if pc = 214 then some (.bipush 46, 216, 0, []) else none
        else
         if pc = 216 then some (.if_icmp .ne 36, 219, 252, []) else none
      else
       if pc < 220 then
        if pc = 219 then some (.aload_n 0, 220, 0, []) else none
       else
        if pc < 223 then
         if pc = 220 then some (.getfield 63, 223, 11, [23, 1, 54]) else none
        else
         if pc = 223 then some (.iload 4, 225, 4, []) else none
     else
      if pc < 228 then
       if pc < 226 then
        if pc = 225 then some (.iconst 1, 226, 0, []) else none
       else
        if pc < 227 then
         if pc = 226 then some (.iadd, 227, 0, []) else none
        else
         if pc = 227 then some (.caload, 228, 0, []) else none
      else
       if pc < 230 then
        if pc = 228 then some (.bipush 46, 230, 0, []) else none
       else
        if pc < 233 then
         if pc = 230 then some (.if_icmp .ne 22, 233, 252, []) else none
        else
         if pc = 233 then some (.aload_n 0, 234, 0, []) else none
   else
    if pc < 254 then
     if pc < 244 then
      if pc < 239 then
       if pc < 235 then
        if pc = 234 then some (.iconst (-1), 235, 0, []) else none
       else
        if pc < 238 then
         if pc = 235 then some (.putfield 141, 238, 11, [26, 0, 54]) else none
        else
         if pc = 238 then some (.aload_n 0, 239, 0, []) else none
      else
       if pc < 242 then
        if pc = 239 then some (.getfield 25, 242, 11, [6, 1, 54]) else none
       else
        if pc < 243 then
         if pc = 242 then some (.iload_n 2, 243, 2, []) else none
        else
         if pc = 243 then some (.iaload, 244, 0, []) else none
     else
      if pc < 249 then
       if pc < 245 then
        if pc = 244 then some (.istore_n 2, 245, 2, []) else none
       else
        if pc < 247 then
         if pc = 245 then some (.iload 5, 247, 5, []) else none
        else
         if pc = 247 then some (.istore 4, 249, 4, []) else none
      else
       if pc < 252 then
        if pc = 249 then some (.goto 120, 252, 369, []) else none
       else
        if pc < 253 then
         if pc = 252 then some (.aload_n 0, 253, 0, []) else none
        else
         if pc = 253 then some (.iload_n 2, 254, 2, []) else none
    else
     if pc < 267 then
      if pc < 260 then
       if pc < 255 then
        if pc = 254 then some (.aload_n 0, 255, 0, []) else none
       else
        if pc < 258 then
         if pc = 255 then some (.getfield 63, 258, 11, [23, 1, 54]) else none
        else
         if pc = 258 then some (.iload 4, 260, 4, []) else none
      else
       if pc < 262 then
        if pc = 260 then some (.iload 5, 262, 5, []) else none
       else
        if pc < 265 then
         if pc = 262 then some (.invokevirtual 147, 265, 102, [5, 0, 0, 6, 12, 0, 0]) else none
        else
         if pc = 265 then some (.istore 6, 267, 6, []) else none
     else
      if pc < 274 then
       if pc < 269 then
        if pc = 267 then some (.iload 6, 269, 6, []) else none
       else
        if pc < 272 then
         if pc = 269 then some (.ifCond .ge 6, 272, 275, []) else none
        else
         if pc = 272 then some (.bipush (-2), 274, 0, []) else none
      else
       if pc < 276 then
        if pc < 275 then
         if pc = 274 then some (.ireturn, 275, 0, []) else none
        else
         if pc = 275 then some (.aload_n 0, 276, 0, []) else none
       else
        if pc < 279 then
         if pc = 276 then some (.getfield 38, 279, 11, [10, 1, 54]) else none
        else
         if pc = 279 then some (.iload 6, 281, 6, []) else none
  else
   if pc < 329 then
    if pc < 304 then
     if pc < 291 then
      if pc < 285 then
       if pc < 282 then
        if pc = 281 then some (.iaload, 282, 0, []) else none
       else
        if pc < 284 then
         if pc = 282 then some (.istore 7, 284, 7, []) else none
        else
         if pc = 284 then some (.aload_n 0, 285, 0, []) else none
      else
       if pc < 288 then
        if pc = 285 then some (.getfield 7, 288, 11, [1, 1, 54]) else none
       else
        if pc < 290 then
         if pc = 288 then some (.iload 7, 290, 7, []) else none
        else
         if pc = 290 then some (.iaload, 291, 0, []) else none
     else
      if pc < 297 then
       if pc < 292 then
        if pc = 291 then some (.iconst 2, 292, 0, []) else none
       else
        if pc < 295 then
         if pc = 292 then some (.if_icmp .ne 64, 295, 356, []) else none
        else
         if pc = 295 then some (.iload 5, 297, 5, []) else none
      else
       if pc < 298 then
        if pc = 297 then some (.aload_n 0, 298, 0, []) else none
       else
        if pc < 301 then
         if pc = 298 then some (.getfield 138, 301, 11, [25, 0, 54]) else none
        else
         if pc = 301 then some (.if_icmp .lt 7, 304, 308, []) else none
    else
     if pc < 317 then
      if pc < 311 then
       if pc < 305 then
        if pc = 304 then some (.iload_n 1, 305, 1, []) else none
       else
        if pc < 308 then
         if pc = 305 then some (.ifCond .eq 51, 308, 356, []) else none
        else
         if pc = 308 then some (.iinc 3 1, 311, 3, []) else none
      else
       if pc < 312 then
        if pc = 311 then some (.iload_n 3, 312, 3, []) else none
       else
        if pc < 314 then
         if pc = 312 then some (.bipush 9, 314, 0, []) else none
        else
         if pc = 314 then some (.if_icmp .ne 6, 317, 320, []) else none
     else
      if pc < 321 then
       if pc < 319 then
        if pc = 317 then some (.bipush (-5), 319, 0, []) else none
       else
        if pc < 320 then
         if pc = 319 then some (.ireturn, 320, 0, []) else none
        else
         if pc = 320 then some (.aload_n 0, 321, 0, []) else none
      else
       if pc < 325 then
        if pc < 323 then
         if pc = 321 then some (.iload 7, 323, 7, []) else none
        else
         if pc = 323 then some (.iload 5, 325, 5, []) else none
       else
        if pc < 328 then
         if pc = 325 then some (.invokevirtual 150, 328, 106, [3, 0, 0, 6, 12, 0, 0]) else none
        else
         if pc = 328 then some (.aload_n 0, 329, 0, []) else none
   else
    if pc < 350 then
     if pc < 340 then
      if pc < 334 then
       if pc < 332 then
        if pc = 329 then some (.getfield 63, 332, 11, [23, 1, 54]) else none
       else
        if pc < 333 then
         if pc = 332 then some (.iconst 0, 333, 0, []) else none
        else
         if pc = 333 then some (.caload, 334, 0, []) else none
      else
       if pc < 336 then
        if pc = 334 then some (.bipush 47, 336, 0, []) else none
       else
        if pc < 339 then
         if pc = 336 then some (.if_icmp .ne 7, 339, 343, []) else none
        else
         if pc = 339 then some (.iconst 0, 340, 0, []) else none
     else
      if pc < 345 then
       if pc < 343 then
        if pc = 340 then some (.goto 4, 343, 344, []) else none
       else
        if pc < 344 then
         if pc = 343 then some (.iload_n 2, 344, 2, []) else none
        else
         if pc = 344 then some (.istore_n 2, 345, 2, []) else none
      else
       if pc < 346 then
        if pc = 345 then some (.aload_n 0, 346, 0, []) else none
       else
        if pc < 347 then
         if pc = 346 then some (.iconst (-1), 347, 0, []) else none
        else
         if pc = 347 then some (.putfield 141, 350, 11, [26, 0, 54]) else none
    else
     if pc < 360 then
      if pc < 356 then
       if pc < 351 then
        if pc = 350 then some (.iconst 0, 351, 0, []) else none
       else
        if pc < 353 then
         if pc = 351 then some (.istore 4, 353, 4, []) else none
        else
         if pc = 353 then some (.goto 16, 356, 369, []) else none
      else
       if pc < 358 then
        if pc = 356 then some (.iload 7, 358, 7, []) else none
       else
        if pc < 359 then
         if pc = 358 then some (.istore_n 2, 359, 2, []) else none
        else
         if pc = 359 then some (.aload_n 0, 360, 0, []) else none
     else
      if pc < 367 then
       if pc < 362 then
        if pc = 360 then some (.iload 6, 362, 6, []) else none
       else
        if pc < 365 then
         if pc = 362 then some (.putfield 141, 365, 11, [26, 0, 54]) else none
        else
         if pc = 365 then some (.iload 5, 367, 5, []) else none
      else
       if pc < 100040 then
        if pc < 369 then
         if pc = 367 then some (.istore 4, 369, 4, []) else none
        else
         if pc = 369 then some (.goto (-329), 372, 100040, []) else none
       else
        if pc < 100112 then
         if pc = 100040 then some (.iload 4, 42, 4, []) else none
        else
         if pc = 100112 then some (.iload 5, 114, 5, []) else none

def mc_X11_walkWord (pc : Nat) : Option mE :=
 if pc < 17 then
  if pc < 10 then
   if pc < 2 then
    if pc < 1 then
     if pc = 0 then some (.iload_n 1, 1, 1, []) else none
    else
     if pc = 1 then some (.aload_n 0, 2, 0, []) else none
   else
    if pc < 5 then
     if pc = 2 then some (.getfield 123, 5, 11, [16, 0, 54]) else none
    else
     if pc < 8 then
      if pc = 5 then some (.if_icmp .lt 6, 8, 11, []) else none
     else
      if pc = 8 then some (.bipush (-2), 10, 0, []) else none
  else
   if pc < 12 then
    if pc < 11 then
     if pc = 10 then some (.ireturn, 11, 0, []) else none
    else
     if pc = 11 then some (.aload_n 0, 12, 0, []) else none
   else
    if pc < 13 then
     if pc = 12 then some (.aload_n 0, 13, 0, []) else none
    else
     if pc < 16 then
      if pc = 13 then some (.getfield 50, 16, 11, [17, 1, 54]) else none
     else
      if pc = 16 then some (.iload_n 1, 17, 1, []) else none
 else
  if pc < 24 then
   if pc < 19 then
    if pc < 18 then
     if pc = 17 then some (.iaload, 18, 0, []) else none
    else
     if pc = 18 then some (.aload_n 0, 19, 0, []) else none
   else
    if pc < 22 then
     if pc = 19 then some (.getfield 53, 22, 11, [18, 1, 54]) else none
    else
     if pc < 23 then
      if pc = 22 then some (.iload_n 1, 23, 1, []) else none
     else
      if pc = 23 then some (.iaload, 24, 0, []) else none
  else
   if pc < 28 then
    if pc < 27 then
     if pc = 24 then some (.invokevirtual 153, 27, 105, [3, 0, 0, 4, 12, 0, 0]) else none
    else
     if pc = 27 then some (.aload_n 0, 28, 0, []) else none
   else
    if pc < 29 then
     if pc = 28 then some (.iload_n 2, 29, 2, []) else none
    else
     if pc < 32 then
      if pc = 29 then some (.invokevirtual 156, 32, 107, [2, 0, 0, 8, 12, 0, 0]) else none
     else
      if pc = 32 then some (.ireturn, 33, 0, []) else none

def mc_X11_newPlace (pc : Nat) : Option mE :=
 if pc < 117 then
  if pc < 57 then
   if pc < 25 then
    if pc < 12 then
     if pc < 5 then
      if pc < 1 then
       if pc = 0 then some (.iload_n 1, 1, 1, []) else none
      else
       if pc < 2 then
        if pc = 1 then some (.aload_n 0, 2, 0, []) else none
       else
        if pc = 2 then some (.getfield 123, 5, 11, [16, 0, 54]) else none
     else
      if pc < 10 then
       if pc < 8 then
        if pc = 5 then some (.if_icmp .lt 6, 8, 11, []) else none
       else
        if pc = 8 then some (.bipush (-2), 10, 0, []) else none
      else
       if pc < 11 then
        if pc = 10 then some (.ireturn, 11, 0, []) else none
       else
        if pc = 11 then some (.aload_n 0, 12, 0, []) else none
    else
     if pc < 19 then
      if pc < 16 then
       if pc < 15 then
        if pc = 12 then some (.getfield 53, 15, 11, [18, 1, 54]) else none
       else
        if pc = 15 then some (.iload_n 1, 16, 1, []) else none
      else
       if pc < 17 then
        if pc = 16 then some (.iaload, 17, 0, []) else none
       else
        if pc = 17 then some (.istore_n 3, 100018, 3, []) else none
     else
      if pc < 23 then
       if pc < 20 then
        if pc = 19 then some (.aload_n 0, 20, 0, []) else none
       else
        if pc = 20 then some (.getfield 50, 23, 11, [17, 1, 54]) else none
      else
       if pc < 24 then
        if pc = 23 then some (.iload_n 1, 24, 1, []) else none
       else
        if pc = 24 then some (.iaload, 25, 0, []) else none
   else
    if pc < 38 then
     if pc < 33 then
      if pc < 29 then
       if pc < 28 then
        if pc = 25 then some (.if_icmp .le 22, 28, 47, []) else none
       else
        if pc = 28 then some (.aload_n 0, 29, 0, []) else none
      else
       if pc < 32 then
        if pc = 29 then some (.getfield 47, 32, 11, [14, 1, 54]) else none
       else
        if pc = 32 then some (.iload_n 3, 33, 3, []) else none
     else
      if pc < 35 then
       if pc < 34 then
        if pc = 33 then some (.iconst 1, 34, 0, []) else none
       else
        if pc = 34 then some (.isub, 35, 0, []) else none
      else
       if pc < 36 then
        if pc = 35 then some (.caload, 36, 0, []) else none
       else
        if pc = 36 then some (.bipush 47, 38, 0, []) else none
    else
     if pc < 48 then
      if pc < 44 then
       if pc < 41 then
        if pc = 38 then some (.if_icmp .ne 9, 41, 47, []) else none
       else
        if pc = 41 then some (.iinc 3 (-1), 44, 3, []) else none
      else
       if pc < 47 then
        if pc = 44 then some (.goto (-26), 47, 100018, []) else none
       else
        if pc = 47 then some (.iload_n 3, 48, 3, []) else none
     else
      if pc < 53 then
       if pc < 52 then
        if pc = 48 then some (.istore 4, 100050, 4, []) else none
       else
        if pc = 52 then some (.aload_n 0, 53, 0, []) else none
      else
       if pc < 56 then
        if pc = 53 then some (.getfield 50, 56, 11, [17, 1, 54]) else none
       else
        if pc = 56 then some (.iload_n 1, 57, 1, []) else none
  else
   if pc < 87 then
    if pc < 69 then
     if pc < 62 then
      if pc < 58 then
       if pc = 57 then some (.iaload, 58, 0, []) else none
      else
       if pc < 61 then
        if pc = 58 then some (.if_icmp .le 23, 61, 81, []) else none
       else
        if pc = 61 then some (.aload_n 0, 62, 0, []) else none
     else
      if pc < 67 then
       if pc < 65 then
        if pc = 62 then some (.getfield 47, 65, 11, [14, 1, 54]) else none
       else
        if pc = 65 then some (.iload 4, 67, 4, []) else none
      else
       if pc < 68 then
        if pc = 67 then some (.iconst 1, 68, 0, []) else none
       else
        if pc = 68 then some (.isub, 69, 0, []) else none
    else
     if pc < 78 then
      if pc < 72 then
       if pc < 70 then
        if pc = 69 then some (.caload, 70, 0, []) else none
       else
        if pc = 70 then some (.bipush 47, 72, 0, []) else none
      else
       if pc < 75 then
        if pc = 72 then some (.if_icmp .eq 9, 75, 81, []) else none
       else
        if pc = 75 then some (.iinc 4 (-1), 78, 4, []) else none
     else
      if pc < 82 then
       if pc < 81 then
        if pc = 78 then some (.goto (-28), 81, 100050, []) else none
       else
        if pc = 81 then some (.aload_n 0, 82, 0, []) else none
      else
       if pc < 85 then
        if pc = 82 then some (.getfield 47, 85, 11, [14, 1, 54]) else none
       else
        if pc = 85 then some (.iload 4, 87, 4, []) else none
   else
    if pc < 103 then
     if pc < 96 then
      if pc < 91 then
       if pc < 88 then
        if pc = 87 then some (.iload_n 3, 88, 3, []) else none
       else
        if pc = 88 then some (.invokestatic 160, 91, 100, [3, 0, 0, 6]) else none
      else
       if pc < 94 then
        if pc = 91 then some (.ifCond .ne 6, 94, 97, []) else none
       else
        if pc = 94 then some (.bipush (-6), 96, 0, []) else none
     else
      if pc < 98 then
       if pc < 97 then
        if pc = 96 then some (.ireturn, 97, 0, []) else none
       else
        if pc = 97 then some (.aload_n 0, 98, 0, []) else none
      else
       if pc < 100 then
        if pc = 98 then some (.iload 4, 100, 4, []) else none
       else
        if pc = 100 then some (.putfield 164, 103, 11, [51, 0, 54]) else none
    else
     if pc < 109 then
      if pc < 105 then
       if pc < 104 then
        if pc = 103 then some (.aload_n 0, 104, 0, []) else none
       else
        if pc = 104 then some (.iload_n 3, 105, 3, []) else none
      else
       if pc < 108 then
        if pc = 105 then some (.putfield 167, 108, 11, [52, 0, 54]) else none
       else
        if pc = 108 then some (.aload_n 0, 109, 0, []) else none
     else
      if pc < 114 then
       if pc < 112 then
        if pc = 109 then some (.getfield 144, 112, 11, [13, 0, 54]) else none
       else
        if pc = 112 then some (.istore 5, 114, 5, []) else none
      else
       if pc < 116 then
        if pc = 114 then some (.iload 4, 116, 4, []) else none
       else
        if pc = 116 then some (.aload_n 0, 117, 0, []) else none
 else
  if pc < 173 then
   if pc < 144 then
    if pc < 130 then
     if pc < 122 then
      if pc < 120 then
       if pc = 117 then some (.getfield 50, 120, 11, [17, 1, 54]) else none
      else
       if pc < 121 then
        if pc = 120 then some (.iload_n 1, 121, 1, []) else none
       else
        if pc = 121 then some (.iaload, 122, 0, []) else none
     else
      if pc < 126 then
       if pc < 125 then
        if pc = 122 then some (.if_icmp .le 22, 125, 144, []) else none
       else
        if pc = 125 then some (.aload_n 0, 126, 0, []) else none
      else
       if pc < 127 then
        if pc = 126 then some (.aload_n 0, 127, 0, []) else none
       else
        if pc = 127 then some (.getfield 50, 130, 11, [17, 1, 54]) else none
    else
     if pc < 137 then
      if pc < 132 then
       if pc < 131 then
        if pc = 130 then some (.iload_n 1, 131, 1, []) else none
       else
        if pc = 131 then some (.iaload, 132, 0, []) else none
      else
       if pc < 134 then
        if pc = 132 then some (.iload 4, 134, 4, []) else none
       else
        if pc = 134 then some (.invokevirtual 153, 137, 105, [3, 0, 0, 4, 12, 0, 0]) else none
     else
      if pc < 139 then
       if pc < 138 then
        if pc = 137 then some (.aload_n 0, 138, 0, []) else none
       else
        if pc = 138 then some (.iconst 1, 139, 0, []) else none
      else
       if pc < 142 then
        if pc = 139 then some (.invokevirtual 156, 142, 107, [2, 0, 0, 8, 12, 0, 0]) else none
       else
        if pc = 142 then some (.istore 5, 144, 5, []) else none
   else
    if pc < 159 then
     if pc < 152 then
      if pc < 149 then
       if pc < 146 then
        if pc = 144 then some (.iload 5, 146, 5, []) else none
       else
        if pc = 146 then some (.ifCond .ge 6, 149, 152, []) else none
      else
       if pc < 151 then
        if pc = 149 then some (.iload 5, 151, 5, []) else none
       else
        if pc = 151 then some (.ireturn, 152, 0, []) else none
     else
      if pc < 156 then
       if pc < 153 then
        if pc = 152 then some (.aload_n 0, 153, 0, []) else none
       else
        if pc = 153 then some (.getfield 7, 156, 11, [1, 1, 54]) else none
      else
       if pc < 158 then
        if pc = 156 then some (.iload 5, 158, 5, []) else none
       else
        if pc = 158 then some (.iaload, 159, 0, []) else none
    else
     if pc < 166 then
      if pc < 164 then
       if pc < 162 then
        if pc = 159 then some (.ifCond .eq 6, 162, 165, []) else none
       else
        if pc = 162 then some (.bipush (-3), 164, 0, []) else none
      else
       if pc < 165 then
        if pc = 164 then some (.ireturn, 165, 0, []) else none
       else
        if pc = 165 then some (.aload_n 0, 166, 0, []) else none
     else
      if pc < 171 then
       if pc < 169 then
        if pc = 166 then some (.getfield 22, 169, 11, [5, 1, 54]) else none
       else
        if pc = 169 then some (.iload 5, 171, 5, []) else none
      else
       if pc < 172 then
        if pc = 171 then some (.iaload, 172, 0, []) else none
       else
        if pc = 172 then some (.iconst 3, 173, 0, []) else none
  else
   if pc < 201 then
    if pc < 185 then
     if pc < 180 then
      if pc < 175 then
       if pc < 174 then
        if pc = 173 then some (.iand, 174, 0, []) else none
       else
        if pc = 174 then some (.iconst 3, 175, 0, []) else none
      else
       if pc < 178 then
        if pc = 175 then some (.if_icmp .eq 6, 178, 181, []) else none
       else
        if pc = 178 then some (.bipush (-4), 180, 0, []) else none
     else
      if pc < 182 then
       if pc < 181 then
        if pc = 180 then some (.ireturn, 181, 0, []) else none
       else
        if pc = 181 then some (.aload_n 0, 182, 0, []) else none
      else
       if pc < 184 then
        if pc = 182 then some (.iload 5, 184, 5, []) else none
       else
        if pc = 184 then some (.aload_n 0, 185, 0, []) else none
    else
     if pc < 194 then
      if pc < 190 then
       if pc < 188 then
        if pc = 185 then some (.getfield 47, 188, 11, [14, 1, 54]) else none
       else
        if pc = 188 then some (.iload 4, 190, 4, []) else none
      else
       if pc < 191 then
        if pc = 190 then some (.iload_n 3, 191, 3, []) else none
       else
        if pc = 191 then some (.invokevirtual 147, 194, 102, [5, 0, 0, 6, 12, 0, 0]) else none
     else
      if pc < 199 then
       if pc < 197 then
        if pc = 194 then some (.ifCond .lt 6, 197, 200, []) else none
       else
        if pc = 197 then some (.bipush (-7), 199, 0, []) else none
      else
       if pc < 200 then
        if pc = 199 then some (.ireturn, 200, 0, []) else none
       else
        if pc = 200 then some (.aload_n 0, 201, 0, []) else none
   else
    if pc < 217 then
     if pc < 209 then
      if pc < 206 then
       if pc < 204 then
        if pc = 201 then some (.getfield 35, 204, 11, [9, 1, 54]) else none
       else
        if pc = 204 then some (.iload 5, 206, 5, []) else none
      else
       if pc < 207 then
        if pc = 206 then some (.iaload, 207, 0, []) else none
       else
        if pc = 207 then some (.bipush 12, 209, 0, []) else none
     else
      if pc < 213 then
       if pc < 212 then
        if pc = 209 then some (.if_icmp .eq 14, 212, 223, []) else none
       else
        if pc = 212 then some (.iload_n 2, 213, 2, []) else none
      else
       if pc < 216 then
        if pc = 213 then some (.ifCond .eq 15, 216, 228, []) else none
       else
        if pc = 216 then some (.aload_n 0, 217, 0, []) else none
    else
     if pc < 228 then
      if pc < 223 then
       if pc < 220 then
        if pc = 217 then some (.invokevirtual 170, 220, 110, [1, 0, 0, 3, 12, 0, 0]) else none
       else
        if pc = 220 then some (.ifCond .ge 8, 223, 228, []) else none
      else
       if pc < 225 then
        if pc = 223 then some (.bipush (-8), 225, 0, []) else none
       else
        if pc = 225 then some (.goto 5, 228, 230, []) else none
     else
      if pc < 100018 then
       if pc < 230 then
        if pc = 228 then some (.iload 5, 230, 5, []) else none
       else
        if pc = 230 then some (.ireturn, 231, 0, []) else none
      else
       if pc < 100050 then
        if pc = 100018 then some (.iload_n 3, 19, 3, []) else none
       else
        if pc = 100050 then some (.iload 4, 52, 4, []) else none

def mc_X11_freeNode (pc : Nat) : Option mE :=
 if pc < 15 then
  if pc < 6 then
   if pc < 2 then
    if pc < 1 then
     if pc = 0 then some (.iconst (-1), 1, 0, []) else none
    else
     if pc = 1 then some (.istore_n 1, 2, 1, []) else none
   else
    if pc < 4 then
     if pc = 2 then some (.bipush 47, 4, 0, []) else none
    else
     if pc = 4 then some (.istore_n 2, 100005, 2, []) else none
  else
   if pc < 10 then
    if pc < 9 then
     if pc = 6 then some (.ifCond .lt 24, 9, 30, []) else none
    else
     if pc = 9 then some (.aload_n 0, 10, 0, []) else none
   else
    if pc < 13 then
     if pc = 10 then some (.getfield 7, 13, 11, [1, 1, 54]) else none
    else
     if pc < 14 then
      if pc = 13 then some (.iload_n 2, 14, 2, []) else none
     else
      if pc = 14 then some (.iaload, 15, 0, []) else none
 else
  if pc < 24 then
   if pc < 19 then
    if pc < 18 then
     if pc = 15 then some (.ifCond .ge 7, 18, 22, []) else none
    else
     if pc = 18 then some (.iload_n 2, 19, 2, []) else none
   else
    if pc < 22 then
     if pc = 19 then some (.goto 4, 22, 23, []) else none
    else
     if pc < 23 then
      if pc = 22 then some (.iload_n 1, 23, 1, []) else none
     else
      if pc = 23 then some (.istore_n 1, 24, 1, []) else none
  else
   if pc < 30 then
    if pc < 27 then
     if pc = 24 then some (.iinc 2 (-1), 27, 2, []) else none
    else
     if pc = 27 then some (.goto (-22), 30, 100005, []) else none
   else
    if pc < 31 then
     if pc = 30 then some (.iload_n 1, 31, 1, []) else none
    else
     if pc < 100005 then
      if pc = 31 then some (.ireturn, 32, 0, []) else none
     else
      if pc = 100005 then some (.iload_n 2, 6, 2, []) else none

def mc_X11_makeNode (pc : Nat) : Option mE :=
 if pc < 51 then
  if pc < 23 then
   if pc < 13 then
    if pc < 6 then
     if pc < 1 then
      if pc = 0 then some (.aload_n 0, 1, 0, []) else none
     else
      if pc < 4 then
       if pc = 1 then some (.invokevirtual 170, 4, 110, [1, 0, 0, 3, 12, 0, 0]) else none
      else
       if pc = 4 then some (.istore 5, 6, 5, []) else none
    else
     if pc < 10 then
      if pc < 7 then
       if pc = 6 then some (.aload_n 0, 7, 0, []) else none
      else
       if pc = 7 then some (.getfield 7, 10, 11, [1, 1, 54]) else none
     else
      if pc < 12 then
       if pc = 10 then some (.iload 5, 12, 5, []) else none
      else
       if pc = 12 then some (.iload_n 2, 13, 2, []) else none
   else
    if pc < 18 then
     if pc < 14 then
      if pc = 13 then some (.iastore, 14, 0, []) else none
     else
      if pc < 15 then
       if pc = 14 then some (.aload_n 0, 15, 0, []) else none
      else
       if pc = 15 then some (.getfield 13, 18, 11, [2, 1, 54]) else none
    else
     if pc < 21 then
      if pc < 20 then
       if pc = 18 then some (.iload 5, 20, 5, []) else none
      else
       if pc = 20 then some (.iload_n 3, 21, 3, []) else none
     else
      if pc < 22 then
       if pc = 21 then some (.iastore, 22, 0, []) else none
      else
       if pc = 22 then some (.aload_n 0, 23, 0, []) else none
  else
   if pc < 37 then
    if pc < 30 then
     if pc < 26 then
      if pc = 23 then some (.getfield 16, 26, 11, [3, 1, 54]) else none
     else
      if pc < 28 then
       if pc = 26 then some (.iload 5, 28, 5, []) else none
      else
       if pc = 28 then some (.iload 4, 30, 4, []) else none
    else
     if pc < 32 then
      if pc < 31 then
       if pc = 30 then some (.iastore, 31, 0, []) else none
      else
       if pc = 31 then some (.aload_n 0, 32, 0, []) else none
     else
      if pc < 35 then
       if pc = 32 then some (.getfield 19, 35, 11, [4, 1, 54]) else none
      else
       if pc = 35 then some (.iload 5, 37, 5, []) else none
   else
    if pc < 43 then
     if pc < 39 then
      if pc < 38 then
       if pc = 37 then some (.iconst 1, 38, 0, []) else none
      else
       if pc = 38 then some (.iastore, 39, 0, []) else none
     else
      if pc < 40 then
       if pc = 39 then some (.aload_n 0, 40, 0, []) else none
      else
       if pc = 40 then some (.getfield 22, 43, 11, [5, 1, 54]) else none
    else
     if pc < 46 then
      if pc < 45 then
       if pc = 43 then some (.iload 5, 45, 5, []) else none
      else
       if pc = 45 then some (.iload_n 2, 46, 2, []) else none
     else
      if pc < 49 then
       if pc = 46 then some (.ifCond .ne 8, 49, 54, []) else none
      else
       if pc = 49 then some (.bipush 7, 51, 0, []) else none
 else
  if pc < 76 then
   if pc < 63 then
    if pc < 56 then
     if pc < 54 then
      if pc = 51 then some (.goto 4, 54, 55, []) else none
     else
      if pc < 55 then
       if pc = 54 then some (.iconst 0, 55, 0, []) else none
      else
       if pc = 55 then some (.iastore, 56, 0, []) else none
    else
     if pc < 60 then
      if pc < 57 then
       if pc = 56 then some (.aload_n 0, 57, 0, []) else none
      else
       if pc = 57 then some (.getfield 25, 60, 11, [6, 1, 54]) else none
     else
      if pc < 62 then
       if pc = 60 then some (.iload 5, 62, 5, []) else none
      else
       if pc = 62 then some (.iload_n 1, 63, 1, []) else none
   else
    if pc < 70 then
     if pc < 65 then
      if pc < 64 then
       if pc = 63 then some (.iastore, 64, 0, []) else none
      else
       if pc = 64 then some (.aload_n 0, 65, 0, []) else none
     else
      if pc < 68 then
       if pc = 65 then some (.getfield 35, 68, 11, [9, 1, 54]) else none
      else
       if pc = 68 then some (.iload 5, 70, 5, []) else none
    else
     if pc < 72 then
      if pc < 71 then
       if pc = 70 then some (.iconst 0, 71, 0, []) else none
      else
       if pc = 71 then some (.iastore, 72, 0, []) else none
     else
      if pc < 73 then
       if pc = 72 then some (.aload_n 0, 73, 0, []) else none
      else
       if pc = 73 then some (.getfield 28, 76, 11, [7, 1, 54]) else none
  else
   if pc < 86 then
    if pc < 80 then
     if pc < 78 then
      if pc = 76 then some (.iload 5, 78, 5, []) else none
     else
      if pc < 79 then
       if pc = 78 then some (.iconst 0, 79, 0, []) else none
      else
       if pc = 79 then some (.iastore, 80, 0, []) else none
    else
     if pc < 82 then
      if pc < 81 then
       if pc = 80 then some (.aload_n 0, 81, 0, []) else none
      else
       if pc = 81 then some (.iload_n 1, 82, 1, []) else none
     else
      if pc < 83 then
       if pc = 82 then some (.aload_n 0, 83, 0, []) else none
      else
       if pc = 83 then some (.getfield 47, 86, 11, [14, 1, 54]) else none
   else
    if pc < 94 then
     if pc < 90 then
      if pc < 87 then
       if pc = 86 then some (.aload_n 0, 87, 0, []) else none
      else
       if pc = 87 then some (.getfield 164, 90, 11, [51, 0, 54]) else none
     else
      if pc < 91 then
       if pc = 90 then some (.aload_n 0, 91, 0, []) else none
      else
       if pc = 91 then some (.getfield 167, 94, 11, [52, 0, 54]) else none
    else
     if pc < 99 then
      if pc < 96 then
       if pc = 94 then some (.iload 5, 96, 5, []) else none
      else
       if pc = 96 then some (.invokevirtual 174, 99, 103, [6, 0, 0, 8, 12, 0, 0]) else none
     else
      if pc < 101 then
       if pc = 99 then some (.iload 5, 101, 5, []) else none
      else
       if pc = 101 then some (.ireturn, 102, 0, []) else none

def mc_X11_isIn (pc : Nat) : Option mE :=
 if pc < 7 then
  if pc < 4 then
   if pc < 1 then
    if pc = 0 then some (.iload_n 0, 1, 0, []) else none
   else
    if pc = 1 then some (.ifCond .lt 13, 4, 14, []) else none
  else
   if pc < 5 then
    if pc = 4 then some (.iload_n 0, 5, 0, []) else none
   else
    if pc = 5 then some (.ldc 178, 7, 0, [999999]) else none
 else
  if pc < 11 then
   if pc < 10 then
    if pc = 7 then some (.if_icmp .gt 7, 10, 14, []) else none
   else
    if pc = 10 then some (.iconst 1, 11, 0, []) else none
  else
   if pc < 14 then
    if pc = 11 then some (.goto 4, 14, 15, []) else none
   else
    if pc < 15 then
     if pc = 14 then some (.iconst 0, 15, 0, []) else none
    else
     if pc = 15 then some (.ireturn, 16, 2, []) else none

def mc_X11_make (pc : Nat) : Option mE :=
 if pc < 38 then
  if pc < 20 then
   if pc < 9 then
    if pc < 2 then
     if pc < 1 then
      if pc = 0 then some (.aload_n 0, 1, 0, []) else none
     else
      if pc = 1 then some (.iload_n 2, 2, 2, []) else none
    else
     if pc < 5 then
      if pc = 2 then some (.invokestatic 179, 5, 112, [1, 0, 0, 1]) else none
     else
      if pc < 8 then
       if pc = 5 then some (.ifCond .eq 14, 8, 19, []) else none
      else
       if pc = 8 then some (.iload_n 3, 9, 3, []) else none
   else
    if pc < 15 then
     if pc < 12 then
      if pc = 9 then some (.invokestatic 179, 12, 112, [1, 0, 0, 1]) else none
     else
      if pc = 12 then some (.ifCond .eq 7, 15, 19, []) else none
    else
     if pc < 16 then
      if pc = 15 then some (.iconst 0, 16, 0, []) else none
     else
      if pc < 19 then
       if pc = 16 then some (.goto 4, 19, 20, []) else none
      else
       if pc = 19 then some (.iconst 1, 20, 0, []) else none
  else
   if pc < 29 then
    if pc < 26 then
     if pc < 23 then
      if pc = 20 then some (.invokevirtual 119, 23, 92, [2, 0, 0, 2, 12, 0, 0]) else none
     else
      if pc = 23 then some (.ifCond .eq 5, 26, 28, []) else none
    else
     if pc < 27 then
      if pc = 26 then some (.iconst 0, 27, 0, []) else none
     else
      if pc < 28 then
       if pc = 27 then some (.ireturn, 28, 0, []) else none
      else
       if pc = 28 then some (.aload_n 0, 29, 0, []) else none
   else
    if pc < 33 then
     if pc < 32 then
      if pc = 29 then some (.invokevirtual 182, 32, 96, [1, 0, 0, 2, 12, 0, 0]) else none
     else
      if pc = 32 then some (.aload_n 0, 33, 0, []) else none
    else
     if pc < 34 then
      if pc = 33 then some (.iconst 0, 34, 0, []) else none
     else
      if pc < 35 then
       if pc = 34 then some (.iconst 1, 35, 0, []) else none
      else
       if pc = 35 then some (.invokevirtual 185, 38, 109, [3, 0, 0, 6, 12, 0, 0]) else none
 else
  if pc < 58 then
   if pc < 50 then
    if pc < 42 then
     if pc < 40 then
      if pc = 38 then some (.istore 4, 40, 4, []) else none
     else
      if pc = 40 then some (.iload 4, 42, 4, []) else none
    else
     if pc < 45 then
      if pc = 42 then some (.ifCond .ge 8, 45, 50, []) else none
     else
      if pc < 47 then
       if pc = 45 then some (.iload 4, 47, 4, []) else none
      else
       if pc = 47 then some (.goto 28, 50, 75, []) else none
   else
    if pc < 53 then
     if pc < 51 then
      if pc = 50 then some (.aload_n 0, 51, 0, []) else none
     else
      if pc = 51 then some (.iload 4, 53, 4, []) else none
    else
     if pc < 54 then
      if pc = 53 then some (.iload_n 1, 54, 1, []) else none
     else
      if pc < 57 then
       if pc = 54 then some (.ifCond .eq 7, 57, 61, []) else none
      else
       if pc = 57 then some (.iconst 0, 58, 0, []) else none
  else
   if pc < 67 then
    if pc < 62 then
     if pc < 61 then
      if pc = 58 then some (.goto 4, 61, 62, []) else none
     else
      if pc = 61 then some (.iconst 1, 62, 0, []) else none
    else
     if pc < 63 then
      if pc = 62 then some (.iload_n 1, 63, 1, []) else none
     else
      if pc < 66 then
       if pc = 63 then some (.ifCond .eq 7, 66, 70, []) else none
      else
       if pc = 66 then some (.iconst 0, 67, 0, []) else none
   else
    if pc < 71 then
     if pc < 70 then
      if pc = 67 then some (.goto 4, 70, 71, []) else none
     else
      if pc = 70 then some (.iload_n 2, 71, 2, []) else none
    else
     if pc < 72 then
      if pc = 71 then some (.iload_n 3, 72, 3, []) else none
     else
      if pc < 75 then
       if pc = 72 then some (.invokevirtual 189, 75, 111, [5, 0, 0, 6, 12, 0, 0]) else none
      else
       if pc = 75 then some (.ireturn, 76, 0, []) else none

def mc_X11_link (pc : Nat) : Option mE :=
 if pc < 66 then
  if pc < 37 then
   if pc < 19 then
    if pc < 8 then
     if pc < 2 then
      if pc < 1 then
       if pc = 0 then some (.aload_n 0, 1, 0, []) else none
      else
       if pc = 1 then some (.iload_n 1, 2, 1, []) else none
     else
      if pc < 5 then
       if pc = 2 then some (.invokestatic 179, 5, 112, [1, 0, 0, 1]) else none
      else
       if pc = 5 then some (.ifCond .eq 7, 8, 12, []) else none
    else
     if pc < 12 then
      if pc < 9 then
       if pc = 8 then some (.iconst 0, 9, 0, []) else none
      else
       if pc = 9 then some (.goto 4, 12, 13, []) else none
     else
      if pc < 13 then
       if pc = 12 then some (.iconst 1, 13, 0, []) else none
      else
       if pc < 16 then
        if pc = 13 then some (.invokevirtual 119, 16, 92, [2, 0, 0, 2, 12, 0, 0]) else none
       else
        if pc = 16 then some (.ifCond .eq 5, 19, 21, []) else none
   else
    if pc < 26 then
     if pc < 21 then
      if pc < 20 then
       if pc = 19 then some (.iconst 0, 20, 0, []) else none
      else
       if pc = 20 then some (.ireturn, 21, 0, []) else none
     else
      if pc < 22 then
       if pc = 21 then some (.aload_n 0, 22, 0, []) else none
      else
       if pc < 25 then
        if pc = 22 then some (.invokevirtual 182, 25, 96, [1, 0, 0, 2, 12, 0, 0]) else none
       else
        if pc = 25 then some (.aload_n 0, 26, 0, []) else none
    else
     if pc < 32 then
      if pc < 29 then
       if pc = 26 then some (.getfield 123, 29, 11, [16, 0, 54]) else none
      else
       if pc = 29 then some (.ifCond .le 16, 32, 45, []) else none
     else
      if pc < 33 then
       if pc = 32 then some (.aload_n 0, 33, 0, []) else none
      else
       if pc < 34 then
        if pc = 33 then some (.iconst 0, 34, 0, []) else none
       else
        if pc = 34 then some (.invokevirtual 126, 37, 97, [2, 0, 0, 2, 12, 0, 0]) else none
  else
   if pc < 52 then
    if pc < 45 then
     if pc < 42 then
      if pc < 39 then
       if pc = 37 then some (.bipush 40, 39, 0, []) else none
      else
       if pc = 39 then some (.if_icmp .le 6, 42, 45, []) else none
     else
      if pc < 44 then
       if pc = 42 then some (.bipush (-9), 44, 0, []) else none
      else
       if pc = 44 then some (.ireturn, 45, 0, []) else none
    else
     if pc < 47 then
      if pc < 46 then
       if pc = 45 then some (.aload_n 0, 46, 0, []) else none
      else
       if pc = 46 then some (.iconst 1, 47, 0, []) else none
     else
      if pc < 48 then
       if pc = 47 then some (.iconst 1, 48, 0, []) else none
      else
       if pc < 51 then
        if pc = 48 then some (.invokevirtual 185, 51, 109, [3, 0, 0, 6, 12, 0, 0]) else none
       else
        if pc = 51 then some (.istore_n 2, 52, 2, []) else none
   else
    if pc < 59 then
     if pc < 56 then
      if pc < 53 then
       if pc = 52 then some (.iload_n 2, 53, 2, []) else none
      else
       if pc = 53 then some (.ifCond .ge 5, 56, 58, []) else none
     else
      if pc < 57 then
       if pc = 56 then some (.iload_n 2, 57, 2, []) else none
      else
       if pc < 58 then
        if pc = 57 then some (.ireturn, 58, 0, []) else none
       else
        if pc = 58 then some (.aload_n 0, 59, 0, []) else none
    else
     if pc < 61 then
      if pc < 60 then
       if pc = 59 then some (.iload_n 2, 60, 2, []) else none
      else
       if pc = 60 then some (.iconst 2, 61, 0, []) else none
     else
      if pc < 62 then
       if pc = 61 then some (.aload_n 0, 62, 0, []) else none
      else
       if pc < 63 then
        if pc = 62 then some (.iconst 0, 63, 0, []) else none
       else
        if pc = 63 then some (.invokevirtual 126, 66, 97, [2, 0, 0, 2, 12, 0, 0]) else none
 else
  if pc < 101 then
   if pc < 81 then
    if pc < 72 then
     if pc < 70 then
      if pc < 67 then
       if pc = 66 then some (.iload_n 1, 67, 1, []) else none
      else
       if pc = 67 then some (.invokevirtual 189, 70, 111, [5, 0, 0, 6, 12, 0, 0]) else none
     else
      if pc < 71 then
       if pc = 70 then some (.istore_n 3, 71, 3, []) else none
      else
       if pc = 71 then some (.aload_n 0, 72, 0, []) else none
    else
     if pc < 76 then
      if pc < 75 then
       if pc = 72 then some (.getfield 28, 75, 11, [7, 1, 54]) else none
      else
       if pc = 75 then some (.iload_n 3, 76, 3, []) else none
     else
      if pc < 77 then
       if pc = 76 then some (.aload_n 0, 77, 0, []) else none
      else
       if pc < 78 then
        if pc = 77 then some (.iconst 0, 78, 0, []) else none
       else
        if pc = 78 then some (.invokevirtual 126, 81, 97, [2, 0, 0, 2, 12, 0, 0]) else none
   else
    if pc < 89 then
     if pc < 83 then
      if pc < 82 then
       if pc = 81 then some (.iastore, 82, 0, []) else none
      else
       if pc = 82 then some (.iconst 0, 83, 0, []) else none
     else
      if pc < 87 then
       if pc = 83 then some (.istore 4, 100085, 4, []) else none
      else
       if pc < 88 then
        if pc = 87 then some (.aload_n 0, 88, 0, []) else none
       else
        if pc = 88 then some (.iconst 0, 89, 0, []) else none
    else
     if pc < 95 then
      if pc < 92 then
       if pc = 89 then some (.invokevirtual 126, 92, 97, [2, 0, 0, 2, 12, 0, 0]) else none
      else
       if pc = 92 then some (.if_icmp .ge 35, 95, 127, []) else none
     else
      if pc < 96 then
       if pc = 95 then some (.aload_n 0, 96, 0, []) else none
      else
       if pc < 99 then
        if pc = 96 then some (.getfield 31, 99, 11, [8, 1, 54]) else none
       else
        if pc = 99 then some (.bipush 40, 101, 0, []) else none
  else
   if pc < 115 then
    if pc < 106 then
     if pc < 103 then
      if pc < 102 then
       if pc = 101 then some (.iload_n 3, 102, 3, []) else none
      else
       if pc = 102 then some (.imul, 103, 0, []) else none
     else
      if pc < 105 then
       if pc = 103 then some (.iload 4, 105, 4, []) else none
      else
       if pc = 105 then some (.iadd, 106, 0, []) else none
    else
     if pc < 110 then
      if pc < 107 then
       if pc = 106 then some (.aload_n 0, 107, 0, []) else none
      else
       if pc = 107 then some (.getfield 47, 110, 11, [14, 1, 54]) else none
     else
      if pc < 111 then
       if pc = 110 then some (.aload_n 0, 111, 0, []) else none
      else
       if pc < 114 then
        if pc = 111 then some (.getfield 50, 114, 11, [17, 1, 54]) else none
       else
        if pc = 114 then some (.iconst 0, 115, 0, []) else none
   else
    if pc < 121 then
     if pc < 118 then
      if pc < 116 then
       if pc = 115 then some (.iaload, 116, 0, []) else none
      else
       if pc = 116 then some (.iload 4, 118, 4, []) else none
     else
      if pc < 119 then
       if pc = 118 then some (.iadd, 119, 0, []) else none
      else
       if pc < 120 then
        if pc = 119 then some (.caload, 120, 0, []) else none
       else
        if pc = 120 then some (.castore, 121, 0, []) else none
    else
     if pc < 127 then
      if pc < 124 then
       if pc = 121 then some (.iinc 4 1, 124, 4, []) else none
      else
       if pc = 124 then some (.goto (-39), 127, 100085, []) else none
     else
      if pc < 128 then
       if pc = 127 then some (.iload_n 3, 128, 3, []) else none
      else
       if pc < 100085 then
        if pc = 128 then some (.ireturn, 129, 0, []) else none
       else
        if pc = 100085 then some (.iload 4, 87, 4, []) else none

def mc_X11_tie (pc : Nat) : Option mE :=
 if pc < 40 then
  if pc < 20 then
   if pc < 10 then
    if pc < 5 then
     if pc < 1 then
      if pc = 0 then some (.aload_n 0, 1, 0, []) else none
     else
      if pc < 2 then
       if pc = 1 then some (.iconst 0, 2, 0, []) else none
      else
       if pc = 2 then some (.putfield 109, 5, 11, [0, 0, 54]) else none
    else
     if pc < 6 then
      if pc = 5 then some (.aload_n 0, 6, 0, []) else none
     else
      if pc < 9 then
       if pc = 6 then some (.invokevirtual 182, 9, 96, [1, 0, 0, 2, 12, 0, 0]) else none
      else
       if pc = 9 then some (.aload_n 0, 10, 0, []) else none
   else
    if pc < 15 then
     if pc < 11 then
      if pc = 10 then some (.iconst 0, 11, 0, []) else none
     else
      if pc < 12 then
       if pc = 11 then some (.iconst 0, 12, 0, []) else none
      else
       if pc = 12 then some (.invokevirtual 193, 15, 108, [3, 0, 0, 3, 12, 0, 0]) else none
    else
     if pc < 16 then
      if pc = 15 then some (.istore_n 1, 16, 1, []) else none
     else
      if pc < 17 then
       if pc = 16 then some (.iload_n 1, 17, 1, []) else none
      else
       if pc = 17 then some (.ifCond .ge 5, 20, 22, []) else none
  else
   if pc < 28 then
    if pc < 23 then
     if pc < 21 then
      if pc = 20 then some (.iload_n 1, 21, 1, []) else none
     else
      if pc < 22 then
       if pc = 21 then some (.ireturn, 22, 0, []) else none
      else
       if pc = 22 then some (.aload_n 0, 23, 0, []) else none
    else
     if pc < 26 then
      if pc = 23 then some (.getfield 7, 26, 11, [1, 1, 54]) else none
     else
      if pc < 27 then
       if pc = 26 then some (.iload_n 1, 27, 1, []) else none
      else
       if pc = 27 then some (.iaload, 28, 0, []) else none
   else
    if pc < 34 then
     if pc < 31 then
      if pc = 28 then some (.ifCond .ne 6, 31, 34, []) else none
     else
      if pc < 33 then
       if pc = 31 then some (.bipush (-11), 33, 0, []) else none
      else
       if pc = 33 then some (.ireturn, 34, 0, []) else none
    else
     if pc < 36 then
      if pc < 35 then
       if pc = 34 then some (.aload_n 0, 35, 0, []) else none
      else
       if pc = 35 then some (.iconst 1, 36, 0, []) else none
     else
      if pc < 37 then
       if pc = 36 then some (.iconst 0, 37, 0, []) else none
      else
       if pc = 37 then some (.invokevirtual 185, 40, 109, [3, 0, 0, 6, 12, 0, 0]) else none
 else
  if pc < 58 then
   if pc < 48 then
    if pc < 45 then
     if pc < 41 then
      if pc = 40 then some (.istore_n 2, 41, 2, []) else none
     else
      if pc < 42 then
       if pc = 41 then some (.iload_n 2, 42, 2, []) else none
      else
       if pc = 42 then some (.ifCond .ge 5, 45, 47, []) else none
    else
     if pc < 46 then
      if pc = 45 then some (.iload_n 2, 46, 2, []) else none
     else
      if pc < 47 then
       if pc = 46 then some (.ireturn, 47, 0, []) else none
      else
       if pc = 47 then some (.aload_n 0, 48, 0, []) else none
   else
    if pc < 53 then
     if pc < 49 then
      if pc = 48 then some (.iload_n 2, 49, 2, []) else none
     else
      if pc < 50 then
       if pc = 49 then some (.aload_n 0, 50, 0, []) else none
      else
       if pc = 50 then some (.getfield 47, 53, 11, [14, 1, 54]) else none
    else
     if pc < 54 then
      if pc = 53 then some (.aload_n 0, 54, 0, []) else none
     else
      if pc < 57 then
       if pc = 54 then some (.getfield 164, 57, 11, [51, 0, 54]) else none
      else
       if pc = 57 then some (.aload_n 0, 58, 0, []) else none
  else
   if pc < 70 then
    if pc < 65 then
     if pc < 61 then
      if pc = 58 then some (.getfield 167, 61, 11, [52, 0, 54]) else none
     else
      if pc < 62 then
       if pc = 61 then some (.iload_n 1, 62, 1, []) else none
      else
       if pc = 62 then some (.invokevirtual 174, 65, 103, [6, 0, 0, 8, 12, 0, 0]) else none
    else
     if pc < 66 then
      if pc = 65 then some (.aload_n 0, 66, 0, []) else none
     else
      if pc < 69 then
       if pc = 66 then some (.getfield 19, 69, 11, [4, 1, 54]) else none
      else
       if pc = 69 then some (.iload_n 1, 70, 1, []) else none
   else
    if pc < 73 then
     if pc < 71 then
      if pc = 70 then some (.dup2, 71, 0, []) else none
     else
      if pc < 72 then
       if pc = 71 then some (.iaload, 72, 0, []) else none
      else
       if pc = 72 then some (.iconst 1, 73, 0, []) else none
    else
     if pc < 75 then
      if pc < 74 then
       if pc = 73 then some (.iadd, 74, 0, []) else none
      else
       if pc = 74 then some (.iastore, 75, 0, []) else none
     else
      if pc < 76 then
       if pc = 75 then some (.iload_n 1, 76, 1, []) else none
      else
       if pc = 76 then some (.ireturn, 77, 0, []) else none

def mc_X11_drop (pc : Nat) : Option mE :=
 if pc < 60 then
  if pc < 29 then
   if pc < 12 then
    if pc < 6 then
     if pc < 2 then
      if pc < 1 then
       if pc = 0 then some (.aload_n 0, 1, 0, []) else none
      else
       if pc = 1 then some (.iconst 0, 2, 0, []) else none
     else
      if pc < 5 then
       if pc = 2 then some (.putfield 109, 5, 11, [0, 0, 54]) else none
      else
       if pc = 5 then some (.aload_n 0, 6, 0, []) else none
    else
     if pc < 10 then
      if pc < 9 then
       if pc = 6 then some (.invokevirtual 182, 9, 96, [1, 0, 0, 2, 12, 0, 0]) else none
      else
       if pc = 9 then some (.aload_n 0, 10, 0, []) else none
     else
      if pc < 11 then
       if pc = 10 then some (.iconst 0, 11, 0, []) else none
      else
       if pc = 11 then some (.iconst 0, 12, 0, []) else none
   else
    if pc < 20 then
     if pc < 16 then
      if pc < 15 then
       if pc = 12 then some (.invokevirtual 193, 15, 108, [3, 0, 0, 3, 12, 0, 0]) else none
      else
       if pc = 15 then some (.istore_n 1, 16, 1, []) else none
     else
      if pc < 17 then
       if pc = 16 then some (.iload_n 1, 17, 1, []) else none
      else
       if pc = 17 then some (.ifCond .ge 5, 20, 22, []) else none
    else
     if pc < 22 then
      if pc < 21 then
       if pc = 20 then some (.iload_n 1, 21, 1, []) else none
      else
       if pc = 21 then some (.ireturn, 22, 0, []) else none
     else
      if pc < 23 then
       if pc = 22 then some (.aload_n 0, 23, 0, []) else none
      else
       if pc < 26 then
        if pc = 23 then some (.getfield 141, 26, 11, [26, 0, 54]) else none
       else
        if pc = 26 then some (.ifCond .lt 11, 29, 37, []) else none
  else
   if pc < 45 then
    if pc < 37 then
     if pc < 31 then
      if pc < 30 then
       if pc = 29 then some (.iload_n 1, 30, 1, []) else none
      else
       if pc = 30 then some (.aload_n 0, 31, 0, []) else none
     else
      if pc < 34 then
       if pc = 31 then some (.getfield 144, 34, 11, [13, 0, 54]) else none
      else
       if pc = 34 then some (.if_icmp .ne 6, 37, 40, []) else none
    else
     if pc < 40 then
      if pc < 39 then
       if pc = 37 then some (.bipush (-11), 39, 0, []) else none
      else
       if pc = 39 then some (.ireturn, 40, 0, []) else none
     else
      if pc < 41 then
       if pc = 40 then some (.aload_n 0, 41, 0, []) else none
      else
       if pc < 44 then
        if pc = 41 then some (.getfield 22, 44, 11, [5, 1, 54]) else none
       else
        if pc = 44 then some (.aload_n 0, 45, 0, []) else none
   else
    if pc < 52 then
     if pc < 50 then
      if pc < 48 then
       if pc = 45 then some (.getfield 141, 48, 11, [26, 0, 54]) else none
      else
       if pc = 48 then some (.bipush 12, 50, 0, []) else none
     else
      if pc < 51 then
       if pc = 50 then some (.idiv, 51, 0, []) else none
      else
       if pc = 51 then some (.iaload, 52, 0, []) else none
    else
     if pc < 54 then
      if pc < 53 then
       if pc = 52 then some (.iconst 2, 53, 0, []) else none
      else
       if pc = 53 then some (.iand, 54, 0, []) else none
     else
      if pc < 57 then
       if pc = 54 then some (.ifCond .ne 6, 57, 60, []) else none
      else
       if pc < 59 then
        if pc = 57 then some (.bipush (-4), 59, 0, []) else none
       else
        if pc = 59 then some (.ireturn, 60, 0, []) else none
 else
  if pc < 93 then
   if pc < 75 then
    if pc < 66 then
     if pc < 64 then
      if pc < 61 then
       if pc = 60 then some (.aload_n 0, 61, 0, []) else none
      else
       if pc = 61 then some (.getfield 7, 64, 11, [1, 1, 54]) else none
     else
      if pc < 65 then
       if pc = 64 then some (.iload_n 1, 65, 1, []) else none
      else
       if pc = 65 then some (.iaload, 66, 0, []) else none
    else
     if pc < 70 then
      if pc < 69 then
       if pc = 66 then some (.ifCond .ne 15, 69, 81, []) else none
      else
       if pc = 69 then some (.aload_n 0, 70, 0, []) else none
     else
      if pc < 73 then
       if pc = 70 then some (.getfield 35, 73, 11, [9, 1, 54]) else none
      else
       if pc < 74 then
        if pc = 73 then some (.iload_n 1, 74, 1, []) else none
       else
        if pc = 74 then some (.iaload, 75, 0, []) else none
   else
    if pc < 82 then
     if pc < 80 then
      if pc < 78 then
       if pc = 75 then some (.ifCond .le 6, 78, 81, []) else none
      else
       if pc = 78 then some (.bipush (-10), 80, 0, []) else none
     else
      if pc < 81 then
       if pc = 80 then some (.ireturn, 81, 0, []) else none
      else
       if pc = 81 then some (.aload_n 0, 82, 0, []) else none
    else
     if pc < 86 then
      if pc < 83 then
       if pc = 82 then some (.aload_n 0, 83, 0, []) else none
      else
       if pc = 83 then some (.getfield 141, 86, 11, [26, 0, 54]) else none
     else
      if pc < 89 then
       if pc = 86 then some (.invokevirtual 196, 89, 104, [2, 0, 0, 5, 12, 0, 0]) else none
      else
       if pc < 90 then
        if pc = 89 then some (.aload_n 0, 90, 0, []) else none
       else
        if pc = 90 then some (.getfield 19, 93, 11, [4, 1, 54]) else none
  else
   if pc < 104 then
    if pc < 97 then
     if pc < 95 then
      if pc < 94 then
       if pc = 93 then some (.iload_n 1, 94, 1, []) else none
      else
       if pc = 94 then some (.dup2, 95, 0, []) else none
     else
      if pc < 96 then
       if pc = 95 then some (.iaload, 96, 0, []) else none
      else
       if pc = 96 then some (.iconst 1, 97, 0, []) else none
    else
     if pc < 99 then
      if pc < 98 then
       if pc = 97 then some (.isub, 98, 0, []) else none
      else
       if pc = 98 then some (.iastore, 99, 0, []) else none
     else
      if pc < 100 then
       if pc = 99 then some (.aload_n 0, 100, 0, []) else none
      else
       if pc < 103 then
        if pc = 100 then some (.getfield 19, 103, 11, [4, 1, 54]) else none
       else
        if pc = 103 then some (.iload_n 1, 104, 1, []) else none
   else
    if pc < 112 then
     if pc < 108 then
      if pc < 105 then
       if pc = 104 then some (.iaload, 105, 0, []) else none
      else
       if pc = 105 then some (.ifCond .ne 10, 108, 115, []) else none
     else
      if pc < 109 then
       if pc = 108 then some (.aload_n 0, 109, 0, []) else none
      else
       if pc = 109 then some (.getfield 7, 112, 11, [1, 1, 54]) else none
    else
     if pc < 114 then
      if pc < 113 then
       if pc = 112 then some (.iload_n 1, 113, 1, []) else none
      else
       if pc = 113 then some (.iconst (-1), 114, 0, []) else none
     else
      if pc < 115 then
       if pc = 114 then some (.iastore, 115, 0, []) else none
      else
       if pc < 116 then
        if pc = 115 then some (.iload_n 1, 116, 1, []) else none
       else
        if pc = 116 then some (.ireturn, 117, 0, []) else none

def mc_X11_bits (pc : Nat) : Option mE :=
 if pc < 36 then
  if pc < 19 then
   if pc < 8 then
    if pc < 2 then
     if pc < 1 then
      if pc = 0 then some (.aload_n 0, 1, 0, []) else none
     else
      if pc = 1 then some (.iload_n 1, 2, 1, []) else none
    else
     if pc < 5 then
      if pc = 2 then some (.ifCond .lt 13, 5, 15, []) else none
     else
      if pc < 6 then
       if pc = 5 then some (.iload_n 1, 6, 1, []) else none
      else
       if pc = 6 then some (.bipush 7, 8, 0, []) else none
   else
    if pc < 12 then
     if pc < 11 then
      if pc = 8 then some (.if_icmp .gt 7, 11, 15, []) else none
     else
      if pc = 11 then some (.iconst 0, 12, 0, []) else none
    else
     if pc < 15 then
      if pc = 12 then some (.goto 4, 15, 16, []) else none
     else
      if pc < 16 then
       if pc = 15 then some (.iconst 1, 16, 0, []) else none
      else
       if pc = 16 then some (.invokevirtual 119, 19, 92, [2, 0, 0, 2, 12, 0, 0]) else none
  else
   if pc < 28 then
    if pc < 23 then
     if pc < 22 then
      if pc = 19 then some (.ifCond .eq 5, 22, 24, []) else none
     else
      if pc = 22 then some (.iconst 0, 23, 0, []) else none
    else
     if pc < 24 then
      if pc = 23 then some (.ireturn, 24, 0, []) else none
     else
      if pc < 25 then
       if pc = 24 then some (.aload_n 0, 25, 0, []) else none
      else
       if pc = 25 then some (.invokevirtual 182, 28, 96, [1, 0, 0, 2, 12, 0, 0]) else none
   else
    if pc < 31 then
     if pc < 29 then
      if pc = 28 then some (.aload_n 0, 29, 0, []) else none
     else
      if pc < 30 then
       if pc = 29 then some (.iconst 0, 30, 0, []) else none
      else
       if pc = 30 then some (.iconst 1, 31, 0, []) else none
    else
     if pc < 34 then
      if pc = 31 then some (.invokevirtual 193, 34, 108, [3, 0, 0, 3, 12, 0, 0]) else none
     else
      if pc < 35 then
       if pc = 34 then some (.istore_n 2, 35, 2, []) else none
      else
       if pc = 35 then some (.iload_n 2, 36, 2, []) else none
 else
  if pc < 54 then
   if pc < 45 then
    if pc < 40 then
     if pc < 39 then
      if pc = 36 then some (.ifCond .ge 5, 39, 41, []) else none
     else
      if pc = 39 then some (.iload_n 2, 40, 2, []) else none
    else
     if pc < 41 then
      if pc = 40 then some (.ireturn, 41, 0, []) else none
     else
      if pc < 42 then
       if pc = 41 then some (.aload_n 0, 42, 0, []) else none
      else
       if pc = 42 then some (.getfield 7, 45, 11, [1, 1, 54]) else none
   else
    if pc < 50 then
     if pc < 46 then
      if pc = 45 then some (.iload_n 2, 46, 2, []) else none
     else
      if pc < 47 then
       if pc = 46 then some (.iaload, 47, 0, []) else none
      else
       if pc = 47 then some (.ifCond .eq 6, 50, 53, []) else none
    else
     if pc < 52 then
      if pc = 50 then some (.bipush (-11), 52, 0, []) else none
     else
      if pc < 53 then
       if pc = 52 then some (.ireturn, 53, 0, []) else none
      else
       if pc = 53 then some (.aload_n 0, 54, 0, []) else none
  else
   if pc < 61 then
    if pc < 58 then
     if pc < 57 then
      if pc = 54 then some (.getfield 22, 57, 11, [5, 1, 54]) else none
     else
      if pc = 57 then some (.iload_n 2, 58, 2, []) else none
    else
     if pc < 59 then
      if pc = 58 then some (.iaload, 59, 0, []) else none
     else
      if pc < 60 then
       if pc = 59 then some (.istore_n 3, 60, 3, []) else none
      else
       if pc = 60 then some (.aload_n 0, 61, 0, []) else none
   else
    if pc < 66 then
     if pc < 64 then
      if pc = 61 then some (.getfield 22, 64, 11, [5, 1, 54]) else none
     else
      if pc < 65 then
       if pc = 64 then some (.iload_n 2, 65, 2, []) else none
      else
       if pc = 65 then some (.iload_n 1, 66, 1, []) else none
    else
     if pc < 67 then
      if pc = 66 then some (.iastore, 67, 0, []) else none
     else
      if pc < 68 then
       if pc = 67 then some (.iload_n 3, 68, 3, []) else none
      else
       if pc = 68 then some (.ireturn, 69, 0, []) else none

def mc_X11_go (pc : Nat) : Option mE :=
 if pc < 27 then
  if pc < 12 then
   if pc < 6 then
    if pc < 2 then
     if pc < 1 then
      if pc = 0 then some (.aload_n 0, 1, 0, []) else none
     else
      if pc = 1 then some (.iconst 0, 2, 0, []) else none
    else
     if pc < 5 then
      if pc = 2 then some (.putfield 109, 5, 11, [0, 0, 54]) else none
     else
      if pc = 5 then some (.aload_n 0, 6, 0, []) else none
   else
    if pc < 10 then
     if pc < 9 then
      if pc = 6 then some (.invokevirtual 182, 9, 96, [1, 0, 0, 2, 12, 0, 0]) else none
     else
      if pc = 9 then some (.aload_n 0, 10, 0, []) else none
    else
     if pc < 11 then
      if pc = 10 then some (.iconst 0, 11, 0, []) else none
     else
      if pc = 11 then some (.iconst 1, 12, 0, []) else none
  else
   if pc < 20 then
    if pc < 16 then
     if pc < 15 then
      if pc = 12 then some (.invokevirtual 193, 15, 108, [3, 0, 0, 3, 12, 0, 0]) else none
     else
      if pc = 15 then some (.istore_n 1, 16, 1, []) else none
    else
     if pc < 17 then
      if pc = 16 then some (.iload_n 1, 17, 1, []) else none
     else
      if pc = 17 then some (.ifCond .ge 5, 20, 22, []) else none
   else
    if pc < 22 then
     if pc < 21 then
      if pc = 20 then some (.iload_n 1, 21, 1, []) else none
     else
      if pc = 21 then some (.ireturn, 22, 0, []) else none
    else
     if pc < 23 then
      if pc = 22 then some (.aload_n 0, 23, 0, []) else none
     else
      if pc < 26 then
       if pc = 23 then some (.getfield 7, 26, 11, [1, 1, 54]) else none
      else
       if pc = 26 then some (.iload_n 1, 27, 1, []) else none
 else
  if pc < 41 then
   if pc < 34 then
    if pc < 31 then
     if pc < 28 then
      if pc = 27 then some (.iaload, 28, 0, []) else none
     else
      if pc = 28 then some (.ifCond .eq 6, 31, 34, []) else none
    else
     if pc < 33 then
      if pc = 31 then some (.bipush (-3), 33, 0, []) else none
     else
      if pc = 33 then some (.ireturn, 34, 0, []) else none
   else
    if pc < 38 then
     if pc < 35 then
      if pc = 34 then some (.aload_n 0, 35, 0, []) else none
     else
      if pc = 35 then some (.getfield 22, 38, 11, [5, 1, 54]) else none
    else
     if pc < 39 then
      if pc = 38 then some (.iload_n 1, 39, 1, []) else none
     else
      if pc < 40 then
       if pc = 39 then some (.iaload, 40, 0, []) else none
      else
       if pc = 40 then some (.iconst 1, 41, 0, []) else none
  else
   if pc < 48 then
    if pc < 45 then
     if pc < 42 then
      if pc = 41 then some (.iand, 42, 0, []) else none
     else
      if pc = 42 then some (.ifCond .ne 6, 45, 48, []) else none
    else
     if pc < 47 then
      if pc = 45 then some (.bipush (-4), 47, 0, []) else none
     else
      if pc = 47 then some (.ireturn, 48, 0, []) else none
   else
    if pc < 50 then
     if pc < 49 then
      if pc = 48 then some (.aload_n 0, 49, 0, []) else none
     else
      if pc = 49 then some (.iload_n 1, 50, 1, []) else none
    else
     if pc < 53 then
      if pc = 50 then some (.putfield 144, 53, 11, [13, 0, 54]) else none
     else
      if pc < 54 then
       if pc = 53 then some (.iload_n 1, 54, 1, []) else none
      else
       if pc = 54 then some (.ireturn, 55, 0, []) else none

def mc_X11_node (pc : Nat) : Option mE :=
 if pc < 9 then
  if pc < 2 then
   if pc < 1 then
    if pc = 0 then some (.aload_n 0, 1, 0, []) else none
   else
    if pc = 1 then some (.iconst 0, 2, 0, []) else none
  else
   if pc < 5 then
    if pc = 2 then some (.putfield 109, 5, 11, [0, 0, 54]) else none
   else
    if pc < 6 then
     if pc = 5 then some (.aload_n 0, 6, 0, []) else none
    else
     if pc = 6 then some (.invokevirtual 182, 9, 96, [1, 0, 0, 2, 12, 0, 0]) else none
 else
  if pc < 11 then
   if pc < 10 then
    if pc = 9 then some (.aload_n 0, 10, 0, []) else none
   else
    if pc = 10 then some (.iconst 0, 11, 0, []) else none
  else
   if pc < 12 then
    if pc = 11 then some (.iload_n 1, 12, 1, []) else none
   else
    if pc < 15 then
     if pc = 12 then some (.invokevirtual 193, 15, 108, [3, 0, 0, 3, 12, 0, 0]) else none
    else
     if pc = 15 then some (.ireturn, 16, 0, []) else none

def mc_X11_entryOf (pc : Nat) : Option mE :=
 if pc < 32 then
  if pc < 15 then
   if pc < 6 then
    if pc < 2 then
     if pc < 1 then
      if pc = 0 then some (.iconst (-1), 1, 0, []) else none
     else
      if pc = 1 then some (.istore_n 2, 2, 2, []) else none
    else
     if pc < 3 then
      if pc = 2 then some (.iconst 0, 3, 0, []) else none
     else
      if pc < 5 then
       if pc = 3 then some (.istore_n 3, 100004, 3, []) else none
      else
       if pc = 5 then some (.aload_n 0, 6, 0, []) else none
   else
    if pc < 10 then
     if pc < 9 then
      if pc = 6 then some (.getfield 35, 9, 11, [9, 1, 54]) else none
     else
      if pc = 9 then some (.aload_n 0, 10, 0, []) else none
    else
     if pc < 13 then
      if pc = 10 then some (.getfield 25, 13, 11, [6, 1, 54]) else none
     else
      if pc < 14 then
       if pc = 13 then some (.iload_n 1, 14, 1, []) else none
      else
       if pc = 14 then some (.iaload, 15, 0, []) else none
  else
   if pc < 25 then
    if pc < 19 then
     if pc < 16 then
      if pc = 15 then some (.iaload, 16, 0, []) else none
     else
      if pc = 16 then some (.if_icmp .ge 45, 19, 61, []) else none
    else
     if pc < 20 then
      if pc = 19 then some (.aload_n 0, 20, 0, []) else none
     else
      if pc < 23 then
       if pc = 20 then some (.getfield 38, 23, 11, [10, 1, 54]) else none
      else
       if pc = 23 then some (.bipush 12, 25, 0, []) else none
   else
    if pc < 29 then
     if pc < 26 then
      if pc = 25 then some (.aload_n 0, 26, 0, []) else none
     else
      if pc = 26 then some (.getfield 25, 29, 11, [6, 1, 54]) else none
    else
     if pc < 30 then
      if pc = 29 then some (.iload_n 1, 30, 1, []) else none
     else
      if pc < 31 then
       if pc = 30 then some (.iaload, 31, 0, []) else none
      else
       if pc = 31 then some (.imul, 32, 0, []) else none
 else
  if pc < 47 then
   if pc < 39 then
    if pc < 34 then
     if pc < 33 then
      if pc = 32 then some (.iload_n 3, 33, 3, []) else none
     else
      if pc = 33 then some (.iadd, 34, 0, []) else none
    else
     if pc < 35 then
      if pc = 34 then some (.iaload, 35, 0, []) else none
     else
      if pc < 36 then
       if pc = 35 then some (.iload_n 1, 36, 1, []) else none
      else
       if pc = 36 then some (.if_icmp .ne 17, 39, 53, []) else none
   else
    if pc < 42 then
     if pc < 41 then
      if pc = 39 then some (.bipush 12, 41, 0, []) else none
     else
      if pc = 41 then some (.aload_n 0, 42, 0, []) else none
    else
     if pc < 45 then
      if pc = 42 then some (.getfield 25, 45, 11, [6, 1, 54]) else none
     else
      if pc < 46 then
       if pc = 45 then some (.iload_n 1, 46, 1, []) else none
      else
       if pc = 46 then some (.iaload, 47, 0, []) else none
  else
   if pc < 54 then
    if pc < 49 then
     if pc < 48 then
      if pc = 47 then some (.imul, 48, 0, []) else none
     else
      if pc = 48 then some (.iload_n 3, 49, 3, []) else none
    else
     if pc < 50 then
      if pc = 49 then some (.iadd, 50, 0, []) else none
     else
      if pc < 53 then
       if pc = 50 then some (.goto 4, 53, 54, []) else none
      else
       if pc = 53 then some (.iload_n 2, 54, 2, []) else none
   else
    if pc < 61 then
     if pc < 55 then
      if pc = 54 then some (.istore_n 2, 55, 2, []) else none
     else
      if pc < 58 then
       if pc = 55 then some (.iinc 3 1, 58, 3, []) else none
      else
       if pc = 58 then some (.goto (-54), 61, 100004, []) else none
    else
     if pc < 62 then
      if pc = 61 then some (.iload_n 2, 62, 2, []) else none
     else
      if pc < 100004 then
       if pc = 62 then some (.ireturn, 63, 0, []) else none
      else
       if pc = 100004 then some (.iload_n 3, 5, 3, []) else none

def mc_X11_real (pc : Nat) : Option mE :=
 if pc < 81 then
  if pc < 36 then
   if pc < 20 then
    if pc < 10 then
     if pc < 5 then
      if pc < 1 then
       if pc = 0 then some (.aload_n 0, 1, 0, []) else none
      else
       if pc < 2 then
        if pc = 1 then some (.iconst 0, 2, 0, []) else none
       else
        if pc = 2 then some (.putfield 109, 5, 11, [0, 0, 54]) else none
     else
      if pc < 6 then
       if pc = 5 then some (.aload_n 0, 6, 0, []) else none
      else
       if pc < 9 then
        if pc = 6 then some (.invokevirtual 182, 9, 96, [1, 0, 0, 2, 12, 0, 0]) else none
       else
        if pc = 9 then some (.aload_n 0, 10, 0, []) else none
    else
     if pc < 15 then
      if pc < 11 then
       if pc = 10 then some (.iconst 0, 11, 0, []) else none
      else
       if pc < 12 then
        if pc = 11 then some (.iconst 1, 12, 0, []) else none
       else
        if pc = 12 then some (.invokevirtual 193, 15, 108, [3, 0, 0, 3, 12, 0, 0]) else none
     else
      if pc < 16 then
       if pc = 15 then some (.istore_n 1, 16, 1, []) else none
      else
       if pc < 17 then
        if pc = 16 then some (.iload_n 1, 17, 1, []) else none
       else
        if pc = 17 then some (.ifCond .ge 5, 20, 22, []) else none
   else
    if pc < 26 then
     if pc < 23 then
      if pc < 21 then
       if pc = 20 then some (.iload_n 1, 21, 1, []) else none
      else
       if pc < 22 then
        if pc = 21 then some (.ireturn, 22, 0, []) else none
       else
        if pc = 22 then some (.iconst 0, 23, 0, []) else none
     else
      if pc < 24 then
       if pc = 23 then some (.istore_n 2, 24, 2, []) else none
      else
       if pc < 25 then
        if pc = 24 then some (.iload_n 1, 25, 1, []) else none
       else
        if pc = 25 then some (.istore_n 3, 26, 3, []) else none
    else
     if pc < 31 then
      if pc < 27 then
       if pc = 26 then some (.aload_n 0, 27, 0, []) else none
      else
       if pc < 30 then
        if pc = 27 then some (.getfield 7, 30, 11, [1, 1, 54]) else none
       else
        if pc = 30 then some (.iload_n 1, 31, 1, []) else none
     else
      if pc < 32 then
       if pc = 31 then some (.iaload, 32, 0, []) else none
      else
       if pc < 35 then
        if pc = 32 then some (.ifCond .eq 24, 35, 100056, []) else none
       else
        if pc = 35 then some (.aload_n 0, 36, 0, []) else none
  else
   if pc < 60 then
    if pc < 48 then
     if pc < 41 then
      if pc < 39 then
       if pc = 36 then some (.getfield 81, 39, 11, [32, 1, 54]) else none
      else
       if pc < 40 then
        if pc = 39 then some (.iload_n 2, 40, 2, []) else none
       else
        if pc = 40 then some (.aload_n 0, 41, 0, []) else none
     else
      if pc < 44 then
       if pc = 41 then some (.getfield 141, 44, 11, [26, 0, 54]) else none
      else
       if pc < 45 then
        if pc = 44 then some (.iastore, 45, 0, []) else none
       else
        if pc = 45 then some (.iinc 2 1, 48, 2, []) else none
    else
     if pc < 54 then
      if pc < 49 then
       if pc = 48 then some (.aload_n 0, 49, 0, []) else none
      else
       if pc < 52 then
        if pc = 49 then some (.getfield 141, 52, 11, [26, 0, 54]) else none
       else
        if pc = 52 then some (.bipush 12, 54, 0, []) else none
     else
      if pc < 55 then
       if pc = 54 then some (.idiv, 55, 0, []) else none
      else
       if pc < 57 then
        if pc = 55 then some (.istore_n 3, 100056, 3, []) else none
       else
        if pc = 57 then some (.ifCond .eq 27, 60, 84, []) else none
   else
    if pc < 70 then
     if pc < 65 then
      if pc < 61 then
       if pc = 60 then some (.aload_n 0, 61, 0, []) else none
      else
       if pc < 64 then
        if pc = 61 then some (.getfield 81, 64, 11, [32, 1, 54]) else none
       else
        if pc = 64 then some (.iload_n 2, 65, 2, []) else none
     else
      if pc < 66 then
       if pc = 65 then some (.aload_n 0, 66, 0, []) else none
      else
       if pc < 67 then
        if pc = 66 then some (.iload_n 3, 67, 3, []) else none
       else
        if pc = 67 then some (.invokevirtual 200, 70, 120, [2, 0, 0, 4, 12, 0, 0]) else none
    else
     if pc < 75 then
      if pc < 71 then
       if pc = 70 then some (.iastore, 71, 0, []) else none
      else
       if pc < 74 then
        if pc = 71 then some (.iinc 2 1, 74, 2, []) else none
       else
        if pc = 74 then some (.aload_n 0, 75, 0, []) else none
     else
      if pc < 79 then
       if pc < 78 then
        if pc = 75 then some (.getfield 25, 78, 11, [6, 1, 54]) else none
       else
        if pc = 78 then some (.iload_n 3, 79, 3, []) else none
      else
       if pc < 80 then
        if pc = 79 then some (.iaload, 80, 0, []) else none
       else
        if pc = 80 then some (.istore_n 3, 81, 3, []) else none
 else
  if pc < 130 then
   if pc < 105 then
    if pc < 91 then
     if pc < 86 then
      if pc < 84 then
       if pc = 81 then some (.goto (-25), 84, 100056, []) else none
      else
       if pc < 85 then
        if pc = 84 then some (.aload_n 0, 85, 0, []) else none
       else
        if pc = 85 then some (.iconst 0, 86, 0, []) else none
     else
      if pc < 89 then
       if pc = 86 then some (.putfield 203, 89, 11, [20, 0, 54]) else none
      else
       if pc < 90 then
        if pc = 89 then some (.iload_n 2, 90, 2, []) else none
       else
        if pc = 90 then some (.iconst 1, 91, 0, []) else none
    else
     if pc < 99 then
      if pc < 92 then
       if pc = 91 then some (.isub, 92, 0, []) else none
      else
       if pc < 96 then
        if pc = 92 then some (.istore 4, 100094, 4, []) else none
       else
        if pc = 96 then some (.ifCond .lt 63, 99, 159, []) else none
     else
      if pc < 100 then
       if pc = 99 then some (.aload_n 0, 100, 0, []) else none
      else
       if pc < 102 then
        if pc = 100 then some (.bipush 47, 102, 0, []) else none
       else
        if pc = 102 then some (.invokevirtual 206, 105, 122, [2, 0, 0, 2, 12, 0, 0]) else none
   else
    if pc < 118 then
     if pc < 111 then
      if pc < 106 then
       if pc = 105 then some (.iconst 0, 106, 0, []) else none
      else
       if pc < 110 then
        if pc = 106 then some (.istore 5, 100108, 5, []) else none
       else
        if pc = 110 then some (.aload_n 0, 111, 0, []) else none
     else
      if pc < 114 then
       if pc = 111 then some (.getfield 41, 114, 11, [11, 1, 54]) else none
      else
       if pc < 115 then
        if pc = 114 then some (.aload_n 0, 115, 0, []) else none
       else
        if pc = 115 then some (.getfield 81, 118, 11, [32, 1, 54]) else none
    else
     if pc < 122 then
      if pc < 120 then
       if pc = 118 then some (.iload 4, 120, 4, []) else none
      else
       if pc < 121 then
        if pc = 120 then some (.iaload, 121, 0, []) else none
       else
        if pc = 121 then some (.iaload, 122, 0, []) else none
     else
      if pc < 126 then
       if pc < 125 then
        if pc = 122 then some (.if_icmp .ge 31, 125, 153, []) else none
       else
        if pc = 125 then some (.aload_n 0, 126, 0, []) else none
      else
       if pc < 127 then
        if pc = 126 then some (.aload_n 0, 127, 0, []) else none
       else
        if pc = 127 then some (.getfield 44, 130, 11, [12, 1, 54]) else none
  else
   if pc < 153 then
    if pc < 140 then
     if pc < 136 then
      if pc < 132 then
       if pc = 130 then some (.bipush 14, 132, 0, []) else none
      else
       if pc < 133 then
        if pc = 132 then some (.aload_n 0, 133, 0, []) else none
       else
        if pc = 133 then some (.getfield 81, 136, 11, [32, 1, 54]) else none
     else
      if pc < 138 then
       if pc = 136 then some (.iload 4, 138, 4, []) else none
      else
       if pc < 139 then
        if pc = 138 then some (.iaload, 139, 0, []) else none
       else
        if pc = 139 then some (.imul, 140, 0, []) else none
    else
     if pc < 144 then
      if pc < 142 then
       if pc = 140 then some (.iload 5, 142, 5, []) else none
      else
       if pc < 143 then
        if pc = 142 then some (.iadd, 143, 0, []) else none
       else
        if pc = 143 then some (.caload, 144, 0, []) else none
     else
      if pc < 147 then
       if pc = 144 then some (.invokevirtual 206, 147, 122, [2, 0, 0, 2, 12, 0, 0]) else none
      else
       if pc < 150 then
        if pc = 147 then some (.iinc 5 1, 150, 5, []) else none
       else
        if pc = 150 then some (.goto (-42), 153, 100108, []) else none
   else
    if pc < 166 then
     if pc < 160 then
      if pc < 156 then
       if pc = 153 then some (.iinc 4 (-1), 156, 4, []) else none
      else
       if pc < 159 then
        if pc = 156 then some (.goto (-62), 159, 100094, []) else none
       else
        if pc = 159 then some (.iload_n 2, 160, 2, []) else none
     else
      if pc < 163 then
       if pc = 160 then some (.ifCond .ne 9, 163, 169, []) else none
      else
       if pc < 164 then
        if pc = 163 then some (.aload_n 0, 164, 0, []) else none
       else
        if pc = 164 then some (.bipush 47, 166, 0, []) else none
    else
     if pc < 173 then
      if pc < 169 then
       if pc = 166 then some (.invokevirtual 206, 169, 122, [2, 0, 0, 2, 12, 0, 0]) else none
      else
       if pc < 170 then
        if pc = 169 then some (.aload_n 0, 170, 0, []) else none
       else
        if pc = 170 then some (.getfield 203, 173, 11, [20, 0, 54]) else none
     else
      if pc < 100094 then
       if pc < 100056 then
        if pc = 173 then some (.ireturn, 174, 0, []) else none
       else
        if pc = 100056 then some (.iload_n 3, 57, 3, []) else none
      else
       if pc < 100108 then
        if pc = 100094 then some (.iload 4, 96, 4, []) else none
       else
        if pc = 100108 then some (.iload 5, 110, 5, []) else none

def mc_X11_write (pc : Nat) : Option mE :=
 if pc < 10 then
  if pc < 5 then
   if pc < 1 then
    if pc = 0 then some (.aload_n 0, 1, 0, []) else none
   else
    if pc < 4 then
     if pc = 1 then some (.getfield 56, 4, 11, [19, 1, 54]) else none
    else
     if pc = 4 then some (.aload_n 0, 5, 0, []) else none
  else
   if pc < 8 then
    if pc = 5 then some (.getfield 203, 8, 11, [20, 0, 54]) else none
   else
    if pc < 9 then
     if pc = 8 then some (.iload_n 1, 9, 1, []) else none
    else
     if pc = 9 then some (.castore, 10, 0, []) else none
 else
  if pc < 15 then
   if pc < 11 then
    if pc = 10 then some (.aload_n 0, 11, 0, []) else none
   else
    if pc < 12 then
     if pc = 11 then some (.dup, 12, 0, []) else none
    else
     if pc = 12 then some (.getfield 203, 15, 11, [20, 0, 54]) else none
  else
   if pc < 17 then
    if pc < 16 then
     if pc = 15 then some (.iconst 1, 16, 0, []) else none
    else
     if pc = 16 then some (.iadd, 17, 0, []) else none
   else
    if pc < 20 then
     if pc = 17 then some (.putfield 203, 20, 11, [20, 0, 54]) else none
    else
     if pc = 20 then some (.return_, 21, 0, []) else none

def mc_X11_testOf (pc : Nat) : Option mE :=
 if pc < 153 then
  if pc < 77 then
   if pc < 40 then
    if pc < 20 then
     if pc < 8 then
      if pc < 2 then
       if pc < 1 then
        if pc = 0 then some (.aload_n 0, 1, 0, []) else none
       else
        if pc = 1 then some (.iload_n 1, 2, 1, []) else none
      else
       if pc < 4 then
        if pc = 2 then some (.bipush 45, 4, 0, []) else none
       else
        if pc < 6 then
         if pc = 4 then some (.bipush 110, 6, 0, []) else none
        else
         if pc = 6 then some (.bipush 97, 8, 0, []) else none
     else
      if pc < 13 then
       if pc < 10 then
        if pc = 8 then some (.bipush 109, 10, 0, []) else none
       else
        if pc < 12 then
         if pc = 10 then some (.bipush 101, 12, 0, []) else none
        else
         if pc = 12 then some (.iconst 5, 13, 0, []) else none
      else
       if pc < 16 then
        if pc = 13 then some (.invokevirtual 210, 16, 124, [8, 0, 0, 9, 12, 0, 0]) else none
       else
        if pc < 19 then
         if pc = 16 then some (.ifCond .eq 5, 19, 21, []) else none
        else
         if pc = 19 then some (.iconst 0, 20, 0, []) else none
    else
     if pc < 27 then
      if pc < 22 then
       if pc < 21 then
        if pc = 20 then some (.ireturn, 21, 0, []) else none
       else
        if pc = 21 then some (.aload_n 0, 22, 0, []) else none
      else
       if pc < 23 then
        if pc = 22 then some (.iload_n 1, 23, 1, []) else none
       else
        if pc < 25 then
         if pc = 23 then some (.bipush 45, 25, 0, []) else none
        else
         if pc = 25 then some (.bipush 116, 27, 0, []) else none
     else
      if pc < 33 then
       if pc < 29 then
        if pc = 27 then some (.bipush 121, 29, 0, []) else none
       else
        if pc < 31 then
         if pc = 29 then some (.bipush 112, 31, 0, []) else none
        else
         if pc = 31 then some (.bipush 101, 33, 0, []) else none
      else
       if pc < 34 then
        if pc = 33 then some (.iconst 5, 34, 0, []) else none
       else
        if pc < 37 then
         if pc = 34 then some (.invokevirtual 210, 37, 124, [8, 0, 0, 9, 12, 0, 0]) else none
        else
         if pc = 37 then some (.ifCond .eq 5, 40, 42, []) else none
   else
    if pc < 58 then
     if pc < 46 then
      if pc < 42 then
       if pc < 41 then
        if pc = 40 then some (.iconst 1, 41, 0, []) else none
       else
        if pc = 41 then some (.ireturn, 42, 0, []) else none
      else
       if pc < 43 then
        if pc = 42 then some (.aload_n 0, 43, 0, []) else none
       else
        if pc < 44 then
         if pc = 43 then some (.iload_n 1, 44, 1, []) else none
        else
         if pc = 44 then some (.bipush 45, 46, 0, []) else none
     else
      if pc < 52 then
       if pc < 48 then
        if pc = 46 then some (.bipush 115, 48, 0, []) else none
       else
        if pc < 50 then
         if pc = 48 then some (.bipush 105, 50, 0, []) else none
        else
         if pc = 50 then some (.bipush 122, 52, 0, []) else none
      else
       if pc < 54 then
        if pc = 52 then some (.bipush 101, 54, 0, []) else none
       else
        if pc < 55 then
         if pc = 54 then some (.iconst 5, 55, 0, []) else none
        else
         if pc = 55 then some (.invokevirtual 210, 58, 124, [8, 0, 0, 9, 12, 0, 0]) else none
    else
     if pc < 65 then
      if pc < 62 then
       if pc < 61 then
        if pc = 58 then some (.ifCond .eq 5, 61, 63, []) else none
       else
        if pc = 61 then some (.iconst 2, 62, 0, []) else none
      else
       if pc < 63 then
        if pc = 62 then some (.ireturn, 63, 0, []) else none
       else
        if pc < 64 then
         if pc = 63 then some (.aload_n 0, 64, 0, []) else none
        else
         if pc = 64 then some (.iload_n 1, 65, 1, []) else none
     else
      if pc < 71 then
       if pc < 67 then
        if pc = 65 then some (.bipush 45, 67, 0, []) else none
       else
        if pc < 69 then
         if pc = 67 then some (.bipush 109, 69, 0, []) else none
        else
         if pc = 69 then some (.bipush 116, 71, 0, []) else none
      else
       if pc < 73 then
        if pc = 71 then some (.bipush 105, 73, 0, []) else none
       else
        if pc < 75 then
         if pc = 73 then some (.bipush 109, 75, 0, []) else none
        else
         if pc = 75 then some (.bipush 6, 77, 0, []) else none
  else
   if pc < 115 then
    if pc < 96 then
     if pc < 88 then
      if pc < 83 then
       if pc < 80 then
        if pc = 77 then some (.invokevirtual 210, 80, 124, [8, 0, 0, 9, 12, 0, 0]) else none
       else
        if pc = 80 then some (.ifCond .eq 23, 83, 103, []) else none
      else
       if pc < 84 then
        if pc = 83 then some (.aload_n 0, 84, 0, []) else none
       else
        if pc < 87 then
         if pc = 84 then some (.getfield 47, 87, 11, [14, 1, 54]) else none
        else
         if pc = 87 then some (.aload_n 0, 88, 0, []) else none
     else
      if pc < 93 then
       if pc < 91 then
        if pc = 88 then some (.getfield 50, 91, 11, [17, 1, 54]) else none
       else
        if pc < 92 then
         if pc = 91 then some (.iload_n 1, 92, 1, []) else none
        else
         if pc = 92 then some (.iaload, 93, 0, []) else none
      else
       if pc < 94 then
        if pc = 93 then some (.iconst 5, 94, 0, []) else none
       else
        if pc < 95 then
         if pc = 94 then some (.iadd, 95, 0, []) else none
        else
         if pc = 95 then some (.caload, 96, 0, []) else none
    else
     if pc < 104 then
      if pc < 101 then
       if pc < 98 then
        if pc = 96 then some (.bipush 101, 98, 0, []) else none
       else
        if pc = 98 then some (.if_icmp .ne 5, 101, 103, []) else none
      else
       if pc < 102 then
        if pc = 101 then some (.iconst 3, 102, 0, []) else none
       else
        if pc < 103 then
         if pc = 102 then some (.ireturn, 103, 0, []) else none
        else
         if pc = 103 then some (.aload_n 0, 104, 0, []) else none
     else
      if pc < 109 then
       if pc < 105 then
        if pc = 104 then some (.iload_n 1, 105, 1, []) else none
       else
        if pc < 107 then
         if pc = 105 then some (.bipush 45, 107, 0, []) else none
        else
         if pc = 107 then some (.bipush 108, 109, 0, []) else none
      else
       if pc < 111 then
        if pc = 109 then some (.bipush 105, 111, 0, []) else none
       else
        if pc < 113 then
         if pc = 111 then some (.bipush 110, 113, 0, []) else none
        else
         if pc = 113 then some (.bipush 107, 115, 0, []) else none
   else
    if pc < 135 then
     if pc < 127 then
      if pc < 120 then
       if pc < 117 then
        if pc = 115 then some (.bipush 6, 117, 0, []) else none
       else
        if pc = 117 then some (.invokevirtual 210, 120, 124, [8, 0, 0, 9, 12, 0, 0]) else none
      else
       if pc < 123 then
        if pc = 120 then some (.ifCond .eq 23, 123, 143, []) else none
       else
        if pc < 124 then
         if pc = 123 then some (.aload_n 0, 124, 0, []) else none
        else
         if pc = 124 then some (.getfield 47, 127, 11, [14, 1, 54]) else none
     else
      if pc < 132 then
       if pc < 128 then
        if pc = 127 then some (.aload_n 0, 128, 0, []) else none
       else
        if pc < 131 then
         if pc = 128 then some (.getfield 50, 131, 11, [17, 1, 54]) else none
        else
         if pc = 131 then some (.iload_n 1, 132, 1, []) else none
      else
       if pc < 133 then
        if pc = 132 then some (.iaload, 133, 0, []) else none
       else
        if pc < 134 then
         if pc = 133 then some (.iconst 5, 134, 0, []) else none
        else
         if pc = 134 then some (.iadd, 135, 0, []) else none
    else
     if pc < 143 then
      if pc < 138 then
       if pc < 136 then
        if pc = 135 then some (.caload, 136, 0, []) else none
       else
        if pc = 136 then some (.bipush 115, 138, 0, []) else none
      else
       if pc < 141 then
        if pc = 138 then some (.if_icmp .ne 5, 141, 143, []) else none
       else
        if pc < 142 then
         if pc = 141 then some (.iconst 4, 142, 0, []) else none
        else
         if pc = 142 then some (.ireturn, 143, 0, []) else none
     else
      if pc < 147 then
       if pc < 144 then
        if pc = 143 then some (.aload_n 0, 144, 0, []) else none
       else
        if pc < 145 then
         if pc = 144 then some (.iload_n 1, 145, 1, []) else none
        else
         if pc = 145 then some (.bipush 45, 147, 0, []) else none
      else
       if pc < 149 then
        if pc = 147 then some (.bipush 110, 149, 0, []) else none
       else
        if pc < 151 then
         if pc = 149 then some (.bipush 101, 151, 0, []) else none
        else
         if pc = 151 then some (.bipush 119, 153, 0, []) else none
 else
  if pc < 230 then
   if pc < 191 then
    if pc < 174 then
     if pc < 164 then
      if pc < 157 then
       if pc < 155 then
        if pc = 153 then some (.bipush 101, 155, 0, []) else none
       else
        if pc = 155 then some (.bipush 6, 157, 0, []) else none
      else
       if pc < 160 then
        if pc = 157 then some (.invokevirtual 210, 160, 124, [8, 0, 0, 9, 12, 0, 0]) else none
       else
        if pc < 163 then
         if pc = 160 then some (.ifCond .eq 23, 163, 183, []) else none
        else
         if pc = 163 then some (.aload_n 0, 164, 0, []) else none
     else
      if pc < 171 then
       if pc < 167 then
        if pc = 164 then some (.getfield 47, 167, 11, [14, 1, 54]) else none
       else
        if pc < 168 then
         if pc = 167 then some (.aload_n 0, 168, 0, []) else none
        else
         if pc = 168 then some (.getfield 50, 171, 11, [17, 1, 54]) else none
      else
       if pc < 172 then
        if pc = 171 then some (.iload_n 1, 172, 1, []) else none
       else
        if pc < 173 then
         if pc = 172 then some (.iaload, 173, 0, []) else none
        else
         if pc = 173 then some (.iconst 5, 174, 0, []) else none
    else
     if pc < 182 then
      if pc < 176 then
       if pc < 175 then
        if pc = 174 then some (.iadd, 175, 0, []) else none
       else
        if pc = 175 then some (.caload, 176, 0, []) else none
      else
       if pc < 178 then
        if pc = 176 then some (.bipush 114, 178, 0, []) else none
       else
        if pc < 181 then
         if pc = 178 then some (.if_icmp .ne 5, 181, 183, []) else none
        else
         if pc = 181 then some (.iconst 5, 182, 0, []) else none
     else
      if pc < 185 then
       if pc < 183 then
        if pc = 182 then some (.ireturn, 183, 0, []) else none
       else
        if pc < 184 then
         if pc = 183 then some (.aload_n 0, 184, 0, []) else none
        else
         if pc = 184 then some (.iload_n 1, 185, 1, []) else none
      else
       if pc < 187 then
        if pc = 185 then some (.bipush 45, 187, 0, []) else none
       else
        if pc < 189 then
         if pc = 187 then some (.bipush 112, 189, 0, []) else none
        else
         if pc = 189 then some (.bipush 114, 191, 0, []) else none
   else
    if pc < 213 then
     if pc < 203 then
      if pc < 195 then
       if pc < 193 then
        if pc = 191 then some (.bipush 117, 193, 0, []) else none
       else
        if pc = 193 then some (.bipush 110, 195, 0, []) else none
      else
       if pc < 197 then
        if pc = 195 then some (.bipush 6, 197, 0, []) else none
       else
        if pc < 200 then
         if pc = 197 then some (.invokevirtual 210, 200, 124, [8, 0, 0, 9, 12, 0, 0]) else none
        else
         if pc = 200 then some (.ifCond .eq 24, 203, 224, []) else none
     else
      if pc < 208 then
       if pc < 204 then
        if pc = 203 then some (.aload_n 0, 204, 0, []) else none
       else
        if pc < 207 then
         if pc = 204 then some (.getfield 47, 207, 11, [14, 1, 54]) else none
        else
         if pc = 207 then some (.aload_n 0, 208, 0, []) else none
      else
       if pc < 211 then
        if pc = 208 then some (.getfield 50, 211, 11, [17, 1, 54]) else none
       else
        if pc < 212 then
         if pc = 211 then some (.iload_n 1, 212, 1, []) else none
        else
         if pc = 212 then some (.iaload, 213, 0, []) else none
    else
     if pc < 221 then
      if pc < 215 then
       if pc < 214 then
        if pc = 213 then some (.iconst 5, 214, 0, []) else none
       else
        if pc = 214 then some (.iadd, 215, 0, []) else none
      else
       if pc < 216 then
        if pc = 215 then some (.caload, 216, 0, []) else none
       else
        if pc < 218 then
         if pc = 216 then some (.bipush 101, 218, 0, []) else none
        else
         if pc = 218 then some (.if_icmp .ne 6, 221, 224, []) else none
     else
      if pc < 225 then
       if pc < 223 then
        if pc = 221 then some (.bipush 6, 223, 0, []) else none
       else
        if pc < 224 then
         if pc = 223 then some (.ireturn, 224, 0, []) else none
        else
         if pc = 224 then some (.aload_n 0, 225, 0, []) else none
      else
       if pc < 226 then
        if pc = 225 then some (.iload_n 1, 226, 1, []) else none
       else
        if pc < 228 then
         if pc = 226 then some (.bipush 45, 228, 0, []) else none
        else
         if pc = 228 then some (.bipush 112, 230, 0, []) else none
  else
   if pc < 269 then
    if pc < 253 then
     if pc < 241 then
      if pc < 234 then
       if pc < 232 then
        if pc = 230 then some (.bipush 114, 232, 0, []) else none
       else
        if pc = 232 then some (.bipush 105, 234, 0, []) else none
      else
       if pc < 236 then
        if pc = 234 then some (.bipush 110, 236, 0, []) else none
       else
        if pc < 238 then
         if pc = 236 then some (.bipush 6, 238, 0, []) else none
        else
         if pc = 238 then some (.invokevirtual 210, 241, 124, [8, 0, 0, 9, 12, 0, 0]) else none
     else
      if pc < 248 then
       if pc < 244 then
        if pc = 241 then some (.ifCond .eq 24, 244, 265, []) else none
       else
        if pc < 245 then
         if pc = 244 then some (.aload_n 0, 245, 0, []) else none
        else
         if pc = 245 then some (.getfield 47, 248, 11, [14, 1, 54]) else none
      else
       if pc < 249 then
        if pc = 248 then some (.aload_n 0, 249, 0, []) else none
       else
        if pc < 252 then
         if pc = 249 then some (.getfield 50, 252, 11, [17, 1, 54]) else none
        else
         if pc = 252 then some (.iload_n 1, 253, 1, []) else none
    else
     if pc < 259 then
      if pc < 255 then
       if pc < 254 then
        if pc = 253 then some (.iaload, 254, 0, []) else none
       else
        if pc = 254 then some (.iconst 5, 255, 0, []) else none
      else
       if pc < 256 then
        if pc = 255 then some (.iadd, 256, 0, []) else none
       else
        if pc < 257 then
         if pc = 256 then some (.caload, 257, 0, []) else none
        else
         if pc = 257 then some (.bipush 116, 259, 0, []) else none
     else
      if pc < 265 then
       if pc < 262 then
        if pc = 259 then some (.if_icmp .ne 6, 262, 265, []) else none
       else
        if pc < 264 then
         if pc = 262 then some (.bipush 7, 264, 0, []) else none
        else
         if pc = 264 then some (.ireturn, 265, 0, []) else none
      else
       if pc < 266 then
        if pc = 265 then some (.aload_n 0, 266, 0, []) else none
       else
        if pc < 267 then
         if pc = 266 then some (.iload_n 1, 267, 1, []) else none
        else
         if pc = 267 then some (.bipush 45, 269, 0, []) else none
   else
    if pc < 293 then
     if pc < 279 then
      if pc < 273 then
       if pc < 271 then
        if pc = 269 then some (.bipush 100, 271, 0, []) else none
       else
        if pc = 271 then some (.bipush 101, 273, 0, []) else none
      else
       if pc < 275 then
        if pc = 273 then some (.bipush 112, 275, 0, []) else none
       else
        if pc < 277 then
         if pc = 275 then some (.bipush 116, 277, 0, []) else none
        else
         if pc = 277 then some (.bipush 6, 279, 0, []) else none
     else
      if pc < 286 then
       if pc < 282 then
        if pc = 279 then some (.invokevirtual 210, 282, 124, [8, 0, 0, 9, 12, 0, 0]) else none
       else
        if pc < 285 then
         if pc = 282 then some (.ifCond .eq 26, 285, 308, []) else none
        else
         if pc = 285 then some (.aload_n 0, 286, 0, []) else none
      else
       if pc < 289 then
        if pc = 286 then some (.getfield 47, 289, 11, [14, 1, 54]) else none
       else
        if pc < 290 then
         if pc = 289 then some (.aload_n 0, 290, 0, []) else none
        else
         if pc = 290 then some (.getfield 50, 293, 11, [17, 1, 54]) else none
    else
     if pc < 298 then
      if pc < 295 then
       if pc < 294 then
        if pc = 293 then some (.iload_n 1, 294, 1, []) else none
       else
        if pc = 294 then some (.iaload, 295, 0, []) else none
      else
       if pc < 296 then
        if pc = 295 then some (.iconst 5, 296, 0, []) else none
       else
        if pc < 297 then
         if pc = 296 then some (.iadd, 297, 0, []) else none
        else
         if pc = 297 then some (.caload, 298, 0, []) else none
     else
      if pc < 305 then
       if pc < 300 then
        if pc = 298 then some (.bipush 104, 300, 0, []) else none
       else
        if pc < 303 then
         if pc = 300 then some (.if_icmp .ne 8, 303, 308, []) else none
        else
         if pc = 303 then some (.bipush 8, 305, 0, []) else none
      else
       if pc < 308 then
        if pc = 305 then some (.goto 4, 308, 309, []) else none
       else
        if pc < 309 then
         if pc = 308 then some (.iconst (-1), 309, 0, []) else none
        else
         if pc = 309 then some (.ireturn, 310, 0, []) else none

def mc_X11_same (pc : Nat) : Option mE :=
 if pc < 46 then
  if pc < 24 then
   if pc < 9 then
    if pc < 5 then
     if pc < 1 then
      if pc = 0 then some (.aload_n 0, 1, 0, []) else none
     else
      if pc < 4 then
       if pc = 1 then some (.getfield 50, 4, 11, [17, 1, 54]) else none
      else
       if pc = 4 then some (.iload_n 1, 5, 1, []) else none
    else
     if pc < 6 then
      if pc = 5 then some (.iaload, 6, 0, []) else none
     else
      if pc < 8 then
       if pc = 6 then some (.istore 8, 8, 8, []) else none
      else
       if pc = 8 then some (.aload_n 0, 9, 0, []) else none
   else
    if pc < 15 then
     if pc < 10 then
      if pc = 9 then some (.iload_n 1, 10, 1, []) else none
     else
      if pc < 13 then
       if pc = 10 then some (.invokevirtual 126, 13, 97, [2, 0, 0, 2, 12, 0, 0]) else none
      else
       if pc = 13 then some (.iload 7, 15, 7, []) else none
    else
     if pc < 19 then
      if pc < 18 then
       if pc = 15 then some (.if_icmp .ne 73, 18, 88, []) else none
      else
       if pc = 18 then some (.aload_n 0, 19, 0, []) else none
     else
      if pc < 22 then
       if pc = 19 then some (.getfield 47, 22, 11, [14, 1, 54]) else none
      else
       if pc = 22 then some (.iload 8, 24, 8, []) else none
  else
   if pc < 35 then
    if pc < 29 then
     if pc < 25 then
      if pc = 24 then some (.caload, 25, 0, []) else none
     else
      if pc < 26 then
       if pc = 25 then some (.iload_n 2, 26, 2, []) else none
      else
       if pc = 26 then some (.if_icmp .ne 62, 29, 88, []) else none
    else
     if pc < 30 then
      if pc = 29 then some (.aload_n 0, 30, 0, []) else none
     else
      if pc < 33 then
       if pc = 30 then some (.getfield 47, 33, 11, [14, 1, 54]) else none
      else
       if pc = 33 then some (.iload 8, 35, 8, []) else none
   else
    if pc < 38 then
     if pc < 36 then
      if pc = 35 then some (.iconst 1, 36, 0, []) else none
     else
      if pc < 37 then
       if pc = 36 then some (.iadd, 37, 0, []) else none
      else
       if pc = 37 then some (.caload, 38, 0, []) else none
    else
     if pc < 42 then
      if pc < 39 then
       if pc = 38 then some (.iload_n 3, 39, 3, []) else none
      else
       if pc = 39 then some (.if_icmp .ne 49, 42, 88, []) else none
     else
      if pc < 43 then
       if pc = 42 then some (.aload_n 0, 43, 0, []) else none
      else
       if pc = 43 then some (.getfield 47, 46, 11, [14, 1, 54]) else none
 else
  if pc < 67 then
   if pc < 56 then
    if pc < 50 then
     if pc < 48 then
      if pc = 46 then some (.iload 8, 48, 8, []) else none
     else
      if pc < 49 then
       if pc = 48 then some (.iconst 2, 49, 0, []) else none
      else
       if pc = 49 then some (.iadd, 50, 0, []) else none
    else
     if pc < 51 then
      if pc = 50 then some (.caload, 51, 0, []) else none
     else
      if pc < 53 then
       if pc = 51 then some (.iload 4, 53, 4, []) else none
      else
       if pc = 53 then some (.if_icmp .ne 35, 56, 88, []) else none
   else
    if pc < 62 then
     if pc < 57 then
      if pc = 56 then some (.aload_n 0, 57, 0, []) else none
     else
      if pc < 60 then
       if pc = 57 then some (.getfield 47, 60, 11, [14, 1, 54]) else none
      else
       if pc = 60 then some (.iload 8, 62, 8, []) else none
    else
     if pc < 64 then
      if pc < 63 then
       if pc = 62 then some (.iconst 3, 63, 0, []) else none
      else
       if pc = 63 then some (.iadd, 64, 0, []) else none
     else
      if pc < 65 then
       if pc = 64 then some (.caload, 65, 0, []) else none
      else
       if pc = 65 then some (.iload 5, 67, 5, []) else none
  else
   if pc < 78 then
    if pc < 74 then
     if pc < 70 then
      if pc = 67 then some (.if_icmp .ne 21, 70, 88, []) else none
     else
      if pc < 71 then
       if pc = 70 then some (.aload_n 0, 71, 0, []) else none
      else
       if pc = 71 then some (.getfield 47, 74, 11, [14, 1, 54]) else none
    else
     if pc < 76 then
      if pc = 74 then some (.iload 8, 76, 8, []) else none
     else
      if pc < 77 then
       if pc = 76 then some (.iconst 4, 77, 0, []) else none
      else
       if pc = 77 then some (.iadd, 78, 0, []) else none
   else
    if pc < 84 then
     if pc < 79 then
      if pc = 78 then some (.caload, 79, 0, []) else none
     else
      if pc < 81 then
       if pc = 79 then some (.iload 6, 81, 6, []) else none
      else
       if pc = 81 then some (.if_icmp .ne 7, 84, 88, []) else none
    else
     if pc < 88 then
      if pc < 85 then
       if pc = 84 then some (.iconst 1, 85, 0, []) else none
      else
       if pc = 85 then some (.goto 4, 88, 89, []) else none
     else
      if pc < 89 then
       if pc = 88 then some (.iconst 0, 89, 0, []) else none
      else
       if pc = 89 then some (.ireturn, 90, 2, []) else none

def mc_X11_isNumber (pc : Nat) : Option mE :=
 if pc < 56 then
  if pc < 30 then
   if pc < 13 then
    if pc < 6 then
     if pc < 4 then
      if pc < 1 then
       if pc = 0 then some (.aload_n 0, 1, 0, []) else none
      else
       if pc = 1 then some (.getfield 50, 4, 11, [17, 1, 54]) else none
     else
      if pc < 5 then
       if pc = 4 then some (.iload_n 1, 5, 1, []) else none
      else
       if pc = 5 then some (.iaload, 6, 0, []) else none
    else
     if pc < 8 then
      if pc < 7 then
       if pc = 6 then some (.istore_n 2, 7, 2, []) else none
      else
       if pc = 7 then some (.aload_n 0, 8, 0, []) else none
     else
      if pc < 11 then
       if pc = 8 then some (.getfield 47, 11, 11, [14, 1, 54]) else none
      else
       if pc < 12 then
        if pc = 11 then some (.iload_n 2, 12, 2, []) else none
       else
        if pc = 12 then some (.caload, 13, 0, []) else none
   else
    if pc < 22 then
     if pc < 18 then
      if pc < 15 then
       if pc = 13 then some (.bipush 43, 15, 0, []) else none
      else
       if pc = 15 then some (.if_icmp .eq 14, 18, 29, []) else none
     else
      if pc < 19 then
       if pc = 18 then some (.aload_n 0, 19, 0, []) else none
      else
       if pc = 19 then some (.getfield 47, 22, 11, [14, 1, 54]) else none
    else
     if pc < 24 then
      if pc < 23 then
       if pc = 22 then some (.iload_n 2, 23, 2, []) else none
      else
       if pc = 23 then some (.caload, 24, 0, []) else none
     else
      if pc < 26 then
       if pc = 24 then some (.bipush 45, 26, 0, []) else none
      else
       if pc < 29 then
        if pc = 26 then some (.if_icmp .ne 9, 29, 35, []) else none
       else
        if pc = 29 then some (.iload_n 2, 30, 2, []) else none
  else
   if pc < 43 then
    if pc < 36 then
     if pc < 32 then
      if pc < 31 then
       if pc = 30 then some (.iconst 1, 31, 0, []) else none
      else
       if pc = 31 then some (.iadd, 32, 0, []) else none
     else
      if pc < 35 then
       if pc = 32 then some (.goto 4, 35, 36, []) else none
      else
       if pc = 35 then some (.iload_n 2, 36, 2, []) else none
    else
     if pc < 38 then
      if pc < 37 then
       if pc = 36 then some (.istore_n 2, 37, 2, []) else none
      else
       if pc = 37 then some (.aload_n 0, 38, 0, []) else none
     else
      if pc < 41 then
       if pc = 38 then some (.getfield 53, 41, 11, [18, 1, 54]) else none
      else
       if pc < 42 then
        if pc = 41 then some (.iload_n 1, 42, 1, []) else none
       else
        if pc = 42 then some (.iaload, 43, 0, []) else none
   else
    if pc < 49 then
     if pc < 45 then
      if pc < 44 then
       if pc = 43 then some (.iload_n 2, 44, 2, []) else none
      else
       if pc = 44 then some (.isub, 45, 0, []) else none
     else
      if pc < 46 then
       if pc = 45 then some (.iconst 1, 46, 0, []) else none
      else
       if pc = 46 then some (.if_icmp .lt 20, 49, 66, []) else none
    else
     if pc < 53 then
      if pc < 50 then
       if pc = 49 then some (.aload_n 0, 50, 0, []) else none
      else
       if pc = 50 then some (.getfield 53, 53, 11, [18, 1, 54]) else none
     else
      if pc < 54 then
       if pc = 53 then some (.iload_n 1, 54, 1, []) else none
      else
       if pc < 55 then
        if pc = 54 then some (.iaload, 55, 0, []) else none
       else
        if pc = 55 then some (.iload_n 2, 56, 2, []) else none
 else
  if pc < 90 then
   if pc < 73 then
    if pc < 63 then
     if pc < 59 then
      if pc < 57 then
       if pc = 56 then some (.isub, 57, 0, []) else none
      else
       if pc = 57 then some (.bipush 6, 59, 0, []) else none
     else
      if pc < 62 then
       if pc = 59 then some (.if_icmp .gt 7, 62, 66, []) else none
      else
       if pc = 62 then some (.iconst 1, 63, 0, []) else none
    else
     if pc < 67 then
      if pc < 66 then
       if pc = 63 then some (.goto 4, 66, 67, []) else none
      else
       if pc = 66 then some (.iconst 0, 67, 0, []) else none
     else
      if pc < 68 then
       if pc = 67 then some (.istore_n 3, 68, 3, []) else none
      else
       if pc < 69 then
        if pc = 68 then some (.iload_n 2, 69, 2, []) else none
       else
        if pc = 69 then some (.istore 4, 100071, 4, []) else none
   else
    if pc < 79 then
     if pc < 77 then
      if pc < 74 then
       if pc = 73 then some (.aload_n 0, 74, 0, []) else none
      else
       if pc = 74 then some (.getfield 53, 77, 11, [18, 1, 54]) else none
     else
      if pc < 78 then
       if pc = 77 then some (.iload_n 1, 78, 1, []) else none
      else
       if pc = 78 then some (.iaload, 79, 0, []) else none
    else
     if pc < 83 then
      if pc < 82 then
       if pc = 79 then some (.if_icmp .ge 43, 82, 122, []) else none
      else
       if pc = 82 then some (.iload_n 3, 83, 3, []) else none
     else
      if pc < 86 then
       if pc = 83 then some (.ifCond .eq 31, 86, 114, []) else none
      else
       if pc < 87 then
        if pc = 86 then some (.aload_n 0, 87, 0, []) else none
       else
        if pc = 87 then some (.getfield 47, 90, 11, [14, 1, 54]) else none
  else
   if pc < 107 then
    if pc < 98 then
     if pc < 93 then
      if pc < 92 then
       if pc = 90 then some (.iload 4, 92, 4, []) else none
      else
       if pc = 92 then some (.caload, 93, 0, []) else none
     else
      if pc < 95 then
       if pc = 93 then some (.bipush 48, 95, 0, []) else none
      else
       if pc = 95 then some (.if_icmp .lt 19, 98, 114, []) else none
    else
     if pc < 102 then
      if pc < 99 then
       if pc = 98 then some (.aload_n 0, 99, 0, []) else none
      else
       if pc = 99 then some (.getfield 47, 102, 11, [14, 1, 54]) else none
     else
      if pc < 104 then
       if pc = 102 then some (.iload 4, 104, 4, []) else none
      else
       if pc < 105 then
        if pc = 104 then some (.caload, 105, 0, []) else none
       else
        if pc = 105 then some (.bipush 57, 107, 0, []) else none
   else
    if pc < 116 then
     if pc < 111 then
      if pc < 110 then
       if pc = 107 then some (.if_icmp .gt 7, 110, 114, []) else none
      else
       if pc = 110 then some (.iconst 1, 111, 0, []) else none
     else
      if pc < 114 then
       if pc = 111 then some (.goto 4, 114, 115, []) else none
      else
       if pc < 115 then
        if pc = 114 then some (.iconst 0, 115, 0, []) else none
       else
        if pc = 115 then some (.istore_n 3, 116, 3, []) else none
    else
     if pc < 122 then
      if pc < 119 then
       if pc = 116 then some (.iinc 4 1, 119, 4, []) else none
      else
       if pc = 119 then some (.goto (-48), 122, 100071, []) else none
     else
      if pc < 123 then
       if pc = 122 then some (.iload_n 3, 123, 3, []) else none
      else
       if pc < 100071 then
        if pc = 123 then some (.ireturn, 124, 2, []) else none
       else
        if pc = 100071 then some (.iload 4, 73, 4, []) else none

def mc_X11_addPart (pc : Nat) : Option mE :=
 if pc < 24 then
  if pc < 11 then
   if pc < 5 then
    if pc < 1 then
     if pc = 0 then some (.aload_n 0, 1, 0, []) else none
    else
     if pc < 4 then
      if pc = 1 then some (.getfield 69, 4, 11, [28, 1, 54]) else none
     else
      if pc = 4 then some (.aload_n 0, 5, 0, []) else none
   else
    if pc < 9 then
     if pc < 8 then
      if pc = 5 then some (.getfield 214, 8, 11, [27, 0, 54]) else none
     else
      if pc = 8 then some (.iload_n 1, 9, 1, []) else none
    else
     if pc < 10 then
      if pc = 9 then some (.iastore, 10, 0, []) else none
     else
      if pc = 10 then some (.aload_n 0, 11, 0, []) else none
  else
   if pc < 18 then
    if pc < 14 then
     if pc = 11 then some (.getfield 72, 14, 11, [29, 1, 54]) else none
    else
     if pc < 15 then
      if pc = 14 then some (.aload_n 0, 15, 0, []) else none
     else
      if pc = 15 then some (.getfield 214, 18, 11, [27, 0, 54]) else none
   else
    if pc < 20 then
     if pc < 19 then
      if pc = 18 then some (.iload_n 2, 19, 2, []) else none
     else
      if pc = 19 then some (.iastore, 20, 0, []) else none
    else
     if pc < 21 then
      if pc = 20 then some (.aload_n 0, 21, 0, []) else none
     else
      if pc = 21 then some (.getfield 75, 24, 11, [30, 1, 54]) else none
 else
  if pc < 35 then
   if pc < 29 then
    if pc < 25 then
     if pc = 24 then some (.aload_n 0, 25, 0, []) else none
    else
     if pc < 28 then
      if pc = 25 then some (.getfield 214, 28, 11, [27, 0, 54]) else none
     else
      if pc = 28 then some (.iload_n 3, 29, 3, []) else none
   else
    if pc < 31 then
     if pc < 30 then
      if pc = 29 then some (.iastore, 30, 0, []) else none
     else
      if pc = 30 then some (.aload_n 0, 31, 0, []) else none
    else
     if pc < 32 then
      if pc = 31 then some (.dup, 32, 0, []) else none
     else
      if pc = 32 then some (.getfield 214, 35, 11, [27, 0, 54]) else none
  else
   if pc < 41 then
    if pc < 37 then
     if pc < 36 then
      if pc = 35 then some (.iconst 1, 36, 0, []) else none
     else
      if pc = 36 then some (.iadd, 37, 0, []) else none
    else
     if pc < 40 then
      if pc = 37 then some (.putfield 214, 40, 11, [27, 0, 54]) else none
     else
      if pc = 40 then some (.aload_n 0, 41, 0, []) else none
   else
    if pc < 45 then
     if pc < 44 then
      if pc = 41 then some (.getfield 214, 44, 11, [27, 0, 54]) else none
     else
      if pc = 44 then some (.iconst 1, 45, 0, []) else none
    else
     if pc < 46 then
      if pc = 45 then some (.isub, 46, 0, []) else none
     else
      if pc = 46 then some (.ireturn, 47, 0, []) else none

def mc_X11_parse (pc : Nat) : Option mE :=
 if pc < 289 then
  if pc < 141 then
   if pc < 63 then
    if pc < 27 then
     if pc < 15 then
      if pc < 6 then
       if pc < 2 then
        if pc < 1 then
         if pc = 0 then some (.aload_n 0, 1, 0, []) else none
        else
         if pc = 1 then some (.iconst 0, 2, 0, []) else none
       else
        if pc < 5 then
         if pc = 2 then some (.putfield 214, 5, 11, [27, 0, 54]) else none
        else
         if pc = 5 then some (.aload_n 0, 6, 0, []) else none
      else
       if pc < 10 then
        if pc < 7 then
         if pc = 6 then some (.iconst 0, 7, 0, []) else none
        else
         if pc = 7 then some (.putfield 217, 10, 11, [36, 2, 54]) else none
       else
        if pc < 11 then
         if pc = 10 then some (.aload_n 0, 11, 0, []) else none
        else
         if pc < 12 then
          if pc = 11 then some (.iconst 0, 12, 0, []) else none
         else
          if pc = 12 then some (.putfield 221, 15, 11, [37, 2, 54]) else none
     else
      if pc < 19 then
       if pc < 17 then
        if pc < 16 then
         if pc = 15 then some (.iconst 0, 16, 0, []) else none
        else
         if pc = 16 then some (.istore_n 2, 17, 2, []) else none
       else
        if pc < 18 then
         if pc = 17 then some (.iconst 0, 18, 0, []) else none
        else
         if pc = 18 then some (.istore_n 3, 19, 3, []) else none
      else
       if pc < 22 then
        if pc < 20 then
         if pc = 19 then some (.iconst 1, 20, 0, []) else none
        else
         if pc = 20 then some (.istore 4, 22, 4, []) else none
       else
        if pc < 23 then
         if pc = 22 then some (.iload_n 1, 23, 1, []) else none
        else
         if pc < 25 then
          if pc = 23 then some (.istore 5, 25, 5, []) else none
         else
          if pc = 25 then some (.iload 5, 27, 5, []) else none
    else
     if pc < 43 then
      if pc < 35 then
       if pc < 31 then
        if pc < 28 then
         if pc = 27 then some (.aload_n 0, 28, 0, []) else none
        else
         if pc = 28 then some (.getfield 123, 31, 11, [16, 0, 54]) else none
       else
        if pc < 34 then
         if pc = 31 then some (.if_icmp .lt 22, 34, 100053, []) else none
        else
         if pc = 34 then some (.aload_n 0, 35, 0, []) else none
      else
       if pc < 38 then
        if pc < 36 then
         if pc = 35 then some (.aload_n 0, 36, 0, []) else none
        else
         if pc = 36 then some (.bipush 7, 38, 0, []) else none
       else
        if pc < 39 then
         if pc = 38 then some (.iconst 0, 39, 0, []) else none
        else
         if pc < 40 then
          if pc = 39 then some (.iconst 0, 40, 0, []) else none
         else
          if pc = 40 then some (.invokevirtual 224, 43, 126, [4, 0, 0, 4, 12, 0, 0]) else none
     else
      if pc < 52 then
       if pc < 47 then
        if pc < 46 then
         if pc = 43 then some (.putfield 228, 46, 11, [35, 0, 54]) else none
        else
         if pc = 46 then some (.aload_n 0, 47, 0, []) else none
       else
        if pc < 48 then
         if pc = 47 then some (.iconst 1, 48, 0, []) else none
        else
         if pc < 51 then
          if pc = 48 then some (.putfield 217, 51, 11, [36, 2, 54]) else none
         else
          if pc = 51 then some (.iconst (-1), 52, 0, []) else none
      else
       if pc < 56 then
        if pc < 55 then
         if pc = 52 then some (.ireturn, 100053, 0, []) else none
        else
         if pc = 55 then some (.aload_n 0, 56, 0, []) else none
       else
        if pc < 59 then
         if pc = 56 then some (.getfield 123, 59, 11, [16, 0, 54]) else none
        else
         if pc < 62 then
          if pc = 59 then some (.if_icmp .ge 447, 62, 506, []) else none
         else
          if pc = 62 then some (.aload_n 0, 63, 0, []) else none
   else
    if pc < 101 then
     if pc < 81 then
      if pc < 72 then
       if pc < 68 then
        if pc < 65 then
         if pc = 63 then some (.iload 5, 65, 5, []) else none
        else
         if pc = 65 then some (.invokevirtual 231, 68, 123, [2, 0, 0, 2, 12, 0, 0]) else none
       else
        if pc < 70 then
         if pc = 68 then some (.istore 6, 70, 6, []) else none
        else
         if pc = 70 then some (.iload 4, 72, 4, []) else none
      else
       if pc < 76 then
        if pc < 75 then
         if pc = 72 then some (.ifCond .eq 172, 75, 244, []) else none
        else
         if pc = 75 then some (.aload_n 0, 76, 0, []) else none
       else
        if pc < 78 then
         if pc = 76 then some (.iload 5, 78, 5, []) else none
        else
         if pc < 80 then
          if pc = 78 then some (.bipush 33, 80, 0, []) else none
         else
          if pc = 80 then some (.iconst 0, 81, 0, []) else none
     else
      if pc < 91 then
       if pc < 87 then
        if pc < 84 then
         if pc = 81 then some (.invokevirtual 234, 84, 98, [4, 0, 0, 5, 12, 0, 0]) else none
        else
         if pc = 84 then some (.ifCond .eq 17, 87, 101, []) else none
       else
        if pc < 88 then
         if pc = 87 then some (.aload_n 0, 88, 0, []) else none
        else
         if pc = 88 then some (.getfield 81, 91, 11, [32, 1, 54]) else none
      else
       if pc < 94 then
        if pc < 92 then
         if pc = 91 then some (.iload_n 2, 92, 2, []) else none
        else
         if pc = 92 then some (.bipush 9, 94, 0, []) else none
       else
        if pc < 95 then
         if pc = 94 then some (.iastore, 95, 0, []) else none
        else
         if pc < 98 then
          if pc = 95 then some (.iinc 2 1, 98, 2, []) else none
         else
          if pc = 98 then some (.goto 402, 101, 500, []) else none
    else
     if pc < 118 then
      if pc < 107 then
       if pc < 104 then
        if pc < 102 then
         if pc = 101 then some (.aload_n 0, 102, 0, []) else none
        else
         if pc = 102 then some (.iload 5, 104, 5, []) else none
       else
        if pc < 106 then
         if pc = 104 then some (.bipush 40, 106, 0, []) else none
        else
         if pc = 106 then some (.iconst 0, 107, 0, []) else none
      else
       if pc < 113 then
        if pc < 110 then
         if pc = 107 then some (.invokevirtual 234, 110, 98, [4, 0, 0, 5, 12, 0, 0]) else none
        else
         if pc = 110 then some (.ifCond .eq 17, 113, 127, []) else none
       else
        if pc < 114 then
         if pc = 113 then some (.aload_n 0, 114, 0, []) else none
        else
         if pc < 117 then
          if pc = 114 then some (.getfield 81, 117, 11, [32, 1, 54]) else none
         else
          if pc = 117 then some (.iload_n 2, 118, 2, []) else none
     else
      if pc < 129 then
       if pc < 121 then
        if pc < 120 then
         if pc = 118 then some (.bipush 12, 120, 0, []) else none
        else
         if pc = 120 then some (.iastore, 121, 0, []) else none
       else
        if pc < 124 then
         if pc = 121 then some (.iinc 2 1, 124, 2, []) else none
        else
         if pc < 127 then
          if pc = 124 then some (.goto 376, 127, 500, []) else none
         else
          if pc = 127 then some (.iload 6, 129, 6, []) else none
      else
       if pc < 134 then
        if pc < 132 then
         if pc = 129 then some (.ifCond .lt 112, 132, 241, []) else none
        else
         if pc = 132 then some (.iload 6, 134, 6, []) else none
       else
        if pc < 135 then
         if pc = 134 then some (.iconst 5, 135, 0, []) else none
        else
         if pc < 138 then
          if pc = 135 then some (.if_icmp .gt 29, 138, 164, []) else none
         else
          if pc = 138 then some (.iinc 5 1, 141, 5, []) else none
  else
   if pc < 216 then
    if pc < 179 then
     if pc < 161 then
      if pc < 150 then
       if pc < 144 then
        if pc < 143 then
         if pc = 141 then some (.iload 5, 143, 5, []) else none
        else
         if pc = 143 then some (.aload_n 0, 144, 0, []) else none
       else
        if pc < 147 then
         if pc = 144 then some (.getfield 123, 147, 11, [16, 0, 54]) else none
        else
         if pc = 147 then some (.if_icmp .eq 14, 150, 161, []) else none
      else
       if pc < 153 then
        if pc < 151 then
         if pc = 150 then some (.aload_n 0, 151, 0, []) else none
        else
         if pc = 151 then some (.iload 6, 153, 6, []) else none
       else
        if pc < 155 then
         if pc = 153 then some (.iload 5, 155, 5, []) else none
        else
         if pc < 158 then
          if pc = 155 then some (.invokevirtual 238, 158, 128, [3, 0, 0, 3, 12, 0, 0]) else none
         else
          if pc = 158 then some (.ifCond .ne 6, 161, 164, []) else none
     else
      if pc < 166 then
       if pc < 164 then
        if pc < 163 then
         if pc = 161 then some (.iload 5, 163, 5, []) else none
        else
         if pc = 163 then some (.ireturn, 164, 0, []) else none
       else
        if pc < 165 then
         if pc = 164 then some (.aload_n 0, 165, 0, []) else none
        else
         if pc = 165 then some (.aload_n 0, 166, 0, []) else none
      else
       if pc < 172 then
        if pc < 169 then
         if pc = 166 then some (.getfield 217, 169, 11, [36, 0, 54]) else none
        else
         if pc = 169 then some (.ifCond .ne 10, 172, 179, []) else none
       else
        if pc < 174 then
         if pc = 172 then some (.iload 6, 174, 6, []) else none
        else
         if pc < 176 then
          if pc = 174 then some (.bipush 7, 176, 0, []) else none
         else
          if pc = 176 then some (.if_icmp .ne 7, 179, 183, []) else none
    else
     if pc < 197 then
      if pc < 187 then
       if pc < 183 then
        if pc < 180 then
         if pc = 179 then some (.iconst 1, 180, 0, []) else none
        else
         if pc = 180 then some (.goto 4, 183, 184, []) else none
       else
        if pc < 184 then
         if pc = 183 then some (.iconst 0, 184, 0, []) else none
        else
         if pc = 184 then some (.putfield 217, 187, 11, [36, 2, 54]) else none
      else
       if pc < 189 then
        if pc < 188 then
         if pc = 187 then some (.aload_n 0, 188, 0, []) else none
        else
         if pc = 188 then some (.aload_n 0, 189, 0, []) else none
       else
        if pc < 192 then
         if pc = 189 then some (.getfield 221, 192, 11, [37, 0, 54]) else none
        else
         if pc < 195 then
          if pc = 192 then some (.ifCond .ne 10, 195, 202, []) else none
         else
          if pc = 195 then some (.iload 6, 197, 6, []) else none
     else
      if pc < 207 then
       if pc < 202 then
        if pc < 199 then
         if pc = 197 then some (.bipush 8, 199, 0, []) else none
        else
         if pc = 199 then some (.if_icmp .ne 7, 202, 206, []) else none
       else
        if pc < 203 then
         if pc = 202 then some (.iconst 1, 203, 0, []) else none
        else
         if pc < 206 then
          if pc = 203 then some (.goto 4, 206, 207, []) else none
         else
          if pc = 206 then some (.iconst 0, 207, 0, []) else none
      else
       if pc < 211 then
        if pc < 210 then
         if pc = 207 then some (.putfield 221, 210, 11, [37, 2, 54]) else none
        else
         if pc = 210 then some (.aload_n 0, 211, 0, []) else none
       else
        if pc < 214 then
         if pc = 211 then some (.getfield 84, 214, 11, [33, 1, 54]) else none
        else
         if pc < 215 then
          if pc = 214 then some (.iload_n 3, 215, 3, []) else none
         else
          if pc = 215 then some (.aload_n 0, 216, 0, []) else none
   else
    if pc < 247 then
     if pc < 231 then
      if pc < 224 then
       if pc < 220 then
        if pc < 218 then
         if pc = 216 then some (.iload 6, 218, 6, []) else none
        else
         if pc = 218 then some (.iload 5, 220, 5, []) else none
       else
        if pc < 221 then
         if pc = 220 then some (.iconst 0, 221, 0, []) else none
        else
         if pc = 221 then some (.invokevirtual 224, 224, 126, [4, 0, 0, 4, 12, 0, 0]) else none
      else
       if pc < 228 then
        if pc < 225 then
         if pc = 224 then some (.iastore, 225, 0, []) else none
        else
         if pc = 225 then some (.iinc 3 1, 228, 3, []) else none
       else
        if pc < 229 then
         if pc = 228 then some (.aload_n 0, 229, 0, []) else none
        else
         if pc < 230 then
          if pc = 229 then some (.iload_n 2, 230, 2, []) else none
         else
          if pc = 230 then some (.iload_n 3, 231, 3, []) else none
     else
      if pc < 238 then
       if pc < 235 then
        if pc < 234 then
         if pc = 231 then some (.invokevirtual 242, 234, 129, [3, 0, 0, 4, 12, 0, 0]) else none
        else
         if pc = 234 then some (.istore_n 2, 235, 2, []) else none
       else
        if pc < 236 then
         if pc = 235 then some (.iconst 0, 236, 0, []) else none
        else
         if pc = 236 then some (.istore 4, 238, 4, []) else none
      else
       if pc < 243 then
        if pc < 241 then
         if pc = 238 then some (.goto 262, 241, 500, []) else none
        else
         if pc = 241 then some (.iload 5, 243, 5, []) else none
       else
        if pc < 244 then
         if pc = 243 then some (.ireturn, 244, 0, []) else none
        else
         if pc < 245 then
          if pc = 244 then some (.aload_n 0, 245, 0, []) else none
         else
          if pc = 245 then some (.iload 5, 247, 5, []) else none
    else
     if pc < 268 then
      if pc < 256 then
       if pc < 250 then
        if pc < 249 then
         if pc = 247 then some (.bipush 41, 249, 0, []) else none
        else
         if pc = 249 then some (.iconst 0, 250, 0, []) else none
       else
        if pc < 253 then
         if pc = 250 then some (.invokevirtual 234, 253, 98, [4, 0, 0, 5, 12, 0, 0]) else none
        else
         if pc = 253 then some (.ifCond .eq 83, 256, 336, []) else none
      else
       if pc < 261 then
        if pc < 257 then
         if pc = 256 then some (.iload_n 2, 257, 2, []) else none
        else
         if pc = 257 then some (.istore 7, 100259, 7, []) else none
       else
        if pc < 264 then
         if pc = 261 then some (.ifCond .le 23, 264, 284, []) else none
        else
         if pc < 265 then
          if pc = 264 then some (.aload_n 0, 265, 0, []) else none
         else
          if pc = 265 then some (.getfield 81, 268, 11, [32, 1, 54]) else none
     else
      if pc < 275 then
       if pc < 271 then
        if pc < 270 then
         if pc = 268 then some (.iload 7, 270, 7, []) else none
        else
         if pc = 270 then some (.iconst 1, 271, 0, []) else none
       else
        if pc < 272 then
         if pc = 271 then some (.isub, 272, 0, []) else none
        else
         if pc < 273 then
          if pc = 272 then some (.iaload, 273, 0, []) else none
         else
          if pc = 273 then some (.bipush 12, 275, 0, []) else none
      else
       if pc < 281 then
        if pc < 278 then
         if pc = 275 then some (.if_icmp .eq 9, 278, 284, []) else none
        else
         if pc = 278 then some (.iinc 7 (-1), 281, 7, []) else none
       else
        if pc < 284 then
         if pc = 281 then some (.goto (-22), 284, 100259, []) else none
        else
         if pc < 286 then
          if pc = 284 then some (.iload 7, 286, 7, []) else none
         else
          if pc = 286 then some (.ifCond .ne 6, 289, 100292, []) else none
 else
  if pc < 431 then
   if pc < 358 then
    if pc < 320 then
     if pc < 305 then
      if pc < 297 then
       if pc < 293 then
        if pc < 291 then
         if pc = 289 then some (.iload 5, 291, 5, []) else none
        else
         if pc = 291 then some (.ireturn, 100292, 0, []) else none
       else
        if pc < 296 then
         if pc = 293 then some (.getfield 81, 296, 11, [32, 1, 54]) else none
        else
         if pc = 296 then some (.iload_n 2, 297, 2, []) else none
      else
       if pc < 299 then
        if pc < 298 then
         if pc = 297 then some (.iconst 1, 298, 0, []) else none
        else
         if pc = 298 then some (.isub, 299, 0, []) else none
       else
        if pc < 300 then
         if pc = 299 then some (.iaload, 300, 0, []) else none
        else
         if pc < 302 then
          if pc = 300 then some (.bipush 12, 302, 0, []) else none
         else
          if pc = 302 then some (.if_icmp .eq 21, 305, 323, []) else none
     else
      if pc < 313 then
       if pc < 309 then
        if pc < 308 then
         if pc = 305 then some (.iinc 2 (-1), 308, 2, []) else none
        else
         if pc = 308 then some (.aload_n 0, 309, 0, []) else none
       else
        if pc < 310 then
         if pc = 309 then some (.aload_n 0, 310, 0, []) else none
        else
         if pc = 310 then some (.getfield 81, 313, 11, [32, 1, 54]) else none
      else
       if pc < 315 then
        if pc < 314 then
         if pc = 313 then some (.iload_n 2, 314, 2, []) else none
        else
         if pc = 314 then some (.iaload, 315, 0, []) else none
       else
        if pc < 316 then
         if pc = 315 then some (.iload_n 3, 316, 3, []) else none
        else
         if pc < 319 then
          if pc = 316 then some (.invokevirtual 246, 319, 130, [3, 0, 0, 3, 12, 0, 0]) else none
         else
          if pc = 319 then some (.istore_n 3, 320, 3, []) else none
    else
     if pc < 337 then
      if pc < 328 then
       if pc < 326 then
        if pc < 323 then
         if pc = 320 then some (.goto (-28), 323, 100292, []) else none
        else
         if pc = 323 then some (.iinc 2 (-1), 326, 2, []) else none
       else
        if pc < 327 then
         if pc = 326 then some (.aload_n 0, 327, 0, []) else none
        else
         if pc = 327 then some (.iload_n 2, 328, 2, []) else none
      else
       if pc < 332 then
        if pc < 329 then
         if pc = 328 then some (.iload_n 3, 329, 3, []) else none
        else
         if pc = 329 then some (.invokevirtual 242, 332, 129, [3, 0, 0, 4, 12, 0, 0]) else none
       else
        if pc < 333 then
         if pc = 332 then some (.istore_n 2, 333, 2, []) else none
        else
         if pc < 336 then
          if pc = 333 then some (.goto 167, 336, 500, []) else none
         else
          if pc = 336 then some (.aload_n 0, 337, 0, []) else none
     else
      if pc < 348 then
       if pc < 341 then
        if pc < 339 then
         if pc = 337 then some (.iload 5, 339, 5, []) else none
        else
         if pc = 339 then some (.bipush 45, 341, 0, []) else none
       else
        if pc < 343 then
         if pc = 341 then some (.bipush 111, 343, 0, []) else none
        else
         if pc < 346 then
          if pc = 343 then some (.invokevirtual 234, 346, 98, [4, 0, 0, 5, 12, 0, 0]) else none
         else
          if pc = 346 then some (.istore 7, 348, 7, []) else none
      else
       if pc < 351 then
        if pc < 349 then
         if pc = 348 then some (.aload_n 0, 349, 0, []) else none
        else
         if pc = 349 then some (.iload 5, 351, 5, []) else none
       else
        if pc < 353 then
         if pc = 351 then some (.bipush 45, 353, 0, []) else none
        else
         if pc < 355 then
          if pc = 353 then some (.bipush 97, 355, 0, []) else none
         else
          if pc = 355 then some (.invokevirtual 234, 358, 98, [4, 0, 0, 5, 12, 0, 0]) else none
   else
    if pc < 396 then
     if pc < 378 then
      if pc < 367 then
       if pc < 362 then
        if pc < 360 then
         if pc = 358 then some (.istore 8, 360, 8, []) else none
        else
         if pc = 360 then some (.iload 7, 362, 7, []) else none
       else
        if pc < 365 then
         if pc = 362 then some (.ifCond .ne 40, 365, 100402, []) else none
        else
         if pc = 365 then some (.iload 8, 367, 8, []) else none
      else
       if pc < 372 then
        if pc < 370 then
         if pc = 367 then some (.ifCond .ne 35, 370, 100402, []) else none
        else
         if pc = 370 then some (.iload 6, 372, 6, []) else none
       else
        if pc < 375 then
         if pc = 372 then some (.ifCond .ge 30, 375, 100402, []) else none
        else
         if pc < 376 then
          if pc = 375 then some (.aload_n 0, 376, 0, []) else none
         else
          if pc = 376 then some (.iload 5, 378, 5, []) else none
     else
      if pc < 387 then
       if pc < 381 then
        if pc < 380 then
         if pc = 378 then some (.bipush 33, 380, 0, []) else none
        else
         if pc = 380 then some (.iconst 0, 381, 0, []) else none
       else
        if pc < 384 then
         if pc = 381 then some (.invokevirtual 234, 384, 98, [4, 0, 0, 5, 12, 0, 0]) else none
        else
         if pc = 384 then some (.ifCond .ne 18, 387, 100402, []) else none
      else
       if pc < 390 then
        if pc < 388 then
         if pc = 387 then some (.aload_n 0, 388, 0, []) else none
        else
         if pc = 388 then some (.iload 5, 390, 5, []) else none
       else
        if pc < 392 then
         if pc = 390 then some (.bipush 40, 392, 0, []) else none
        else
         if pc < 393 then
          if pc = 392 then some (.iconst 0, 393, 0, []) else none
         else
          if pc = 393 then some (.invokevirtual 234, 396, 98, [4, 0, 0, 5, 12, 0, 0]) else none
    else
     if pc < 413 then
      if pc < 406 then
       if pc < 401 then
        if pc < 399 then
         if pc = 396 then some (.ifCond .ne 6, 399, 100402, []) else none
        else
         if pc = 399 then some (.iload 5, 401, 5, []) else none
       else
        if pc < 403 then
         if pc = 401 then some (.ireturn, 100402, 0, []) else none
        else
         if pc = 403 then some (.ifCond .le 52, 406, 455, []) else none
      else
       if pc < 410 then
        if pc < 407 then
         if pc = 406 then some (.aload_n 0, 407, 0, []) else none
        else
         if pc = 407 then some (.getfield 81, 410, 11, [32, 1, 54]) else none
       else
        if pc < 411 then
         if pc = 410 then some (.iload_n 2, 411, 2, []) else none
        else
         if pc < 412 then
          if pc = 411 then some (.iconst 1, 412, 0, []) else none
         else
          if pc = 412 then some (.isub, 413, 0, []) else none
     else
      if pc < 424 then
       if pc < 416 then
        if pc < 414 then
         if pc = 413 then some (.iaload, 414, 0, []) else none
        else
         if pc = 414 then some (.bipush 10, 416, 0, []) else none
       else
        if pc < 419 then
         if pc = 416 then some (.if_icmp .eq 21, 419, 437, []) else none
        else
         if pc < 421 then
          if pc = 419 then some (.iload 7, 421, 7, []) else none
         else
          if pc = 421 then some (.ifCond .eq 34, 424, 455, []) else none
      else
       if pc < 428 then
        if pc < 425 then
         if pc = 424 then some (.aload_n 0, 425, 0, []) else none
        else
         if pc = 425 then some (.getfield 81, 428, 11, [32, 1, 54]) else none
       else
        if pc < 429 then
         if pc = 428 then some (.iload_n 2, 429, 2, []) else none
        else
         if pc < 430 then
          if pc = 429 then some (.iconst 1, 430, 0, []) else none
         else
          if pc = 430 then some (.isub, 431, 0, []) else none
  else
   if pc < 506 then
    if pc < 465 then
     if pc < 447 then
      if pc < 440 then
       if pc < 434 then
        if pc < 432 then
         if pc = 431 then some (.iaload, 432, 0, []) else none
        else
         if pc = 432 then some (.bipush 11, 434, 0, []) else none
       else
        if pc < 437 then
         if pc = 434 then some (.if_icmp .ne 21, 437, 455, []) else none
        else
         if pc = 437 then some (.iinc 2 (-1), 440, 2, []) else none
      else
       if pc < 442 then
        if pc < 441 then
         if pc = 440 then some (.aload_n 0, 441, 0, []) else none
        else
         if pc = 441 then some (.aload_n 0, 442, 0, []) else none
       else
        if pc < 445 then
         if pc = 442 then some (.getfield 81, 445, 11, [32, 1, 54]) else none
        else
         if pc < 446 then
          if pc = 445 then some (.iload_n 2, 446, 2, []) else none
         else
          if pc = 446 then some (.iaload, 447, 0, []) else none
     else
      if pc < 455 then
       if pc < 451 then
        if pc < 448 then
         if pc = 447 then some (.iload_n 3, 448, 3, []) else none
        else
         if pc = 448 then some (.invokevirtual 246, 451, 130, [3, 0, 0, 3, 12, 0, 0]) else none
       else
        if pc < 452 then
         if pc = 451 then some (.istore_n 3, 452, 3, []) else none
        else
         if pc = 452 then some (.goto (-50), 455, 100402, []) else none
      else
       if pc < 459 then
        if pc < 456 then
         if pc = 455 then some (.aload_n 0, 456, 0, []) else none
        else
         if pc = 456 then some (.getfield 81, 459, 11, [32, 1, 54]) else none
       else
        if pc < 460 then
         if pc = 459 then some (.iload_n 2, 460, 2, []) else none
        else
         if pc < 462 then
          if pc = 460 then some (.iload 7, 462, 7, []) else none
         else
          if pc = 462 then some (.ifCond .eq 8, 465, 470, []) else none
    else
     if pc < 484 then
      if pc < 473 then
       if pc < 470 then
        if pc < 467 then
         if pc = 465 then some (.bipush 11, 467, 0, []) else none
        else
         if pc = 467 then some (.goto 5, 470, 472, []) else none
       else
        if pc < 472 then
         if pc = 470 then some (.bipush 10, 472, 0, []) else none
        else
         if pc = 472 then some (.iastore, 473, 0, []) else none
      else
       if pc < 477 then
        if pc < 476 then
         if pc = 473 then some (.iinc 2 1, 476, 2, []) else none
        else
         if pc = 476 then some (.iconst 1, 477, 0, []) else none
       else
        if pc < 479 then
         if pc = 477 then some (.istore 4, 479, 4, []) else none
        else
         if pc < 481 then
          if pc = 479 then some (.iload 7, 481, 7, []) else none
         else
          if pc = 481 then some (.ifCond .ne 8, 484, 489, []) else none
     else
      if pc < 496 then
       if pc < 489 then
        if pc < 486 then
         if pc = 484 then some (.iload 8, 486, 8, []) else none
        else
         if pc = 486 then some (.ifCond .eq 8, 489, 494, []) else none
       else
        if pc < 491 then
         if pc = 489 then some (.iload 5, 491, 5, []) else none
        else
         if pc < 494 then
          if pc = 491 then some (.goto 7, 494, 498, []) else none
         else
          if pc = 494 then some (.iload 5, 496, 5, []) else none
      else
       if pc < 498 then
        if pc < 497 then
         if pc = 496 then some (.iconst 1, 497, 0, []) else none
        else
         if pc = 497 then some (.isub, 498, 0, []) else none
       else
        if pc < 500 then
         if pc = 498 then some (.istore 5, 500, 5, []) else none
        else
         if pc < 503 then
          if pc = 500 then some (.iinc 5 1, 503, 5, []) else none
         else
          if pc = 503 then some (.goto (-450), 506, 100053, []) else none
   else
    if pc < 544 then
     if pc < 527 then
      if pc < 515 then
       if pc < 511 then
        if pc < 508 then
         if pc = 506 then some (.iload 4, 508, 4, []) else none
        else
         if pc = 508 then some (.ifCond .eq 8, 511, 100516, []) else none
       else
        if pc < 512 then
         if pc = 511 then some (.aload_n 0, 512, 0, []) else none
        else
         if pc = 512 then some (.getfield 123, 515, 11, [16, 0, 54]) else none
      else
       if pc < 520 then
        if pc < 517 then
         if pc = 515 then some (.ireturn, 100516, 0, []) else none
        else
         if pc = 517 then some (.ifCond .le 37, 520, 554, []) else none
       else
        if pc < 523 then
         if pc = 520 then some (.iinc 2 (-1), 523, 2, []) else none
        else
         if pc < 524 then
          if pc = 523 then some (.aload_n 0, 524, 0, []) else none
         else
          if pc = 524 then some (.getfield 81, 527, 11, [32, 1, 54]) else none
     else
      if pc < 535 then
       if pc < 529 then
        if pc < 528 then
         if pc = 527 then some (.iload_n 2, 528, 2, []) else none
        else
         if pc = 528 then some (.iaload, 529, 0, []) else none
       else
        if pc < 531 then
         if pc = 529 then some (.bipush 12, 531, 0, []) else none
        else
         if pc < 534 then
          if pc = 531 then some (.if_icmp .ne 8, 534, 539, []) else none
         else
          if pc = 534 then some (.aload_n 0, 535, 0, []) else none
      else
       if pc < 539 then
        if pc < 538 then
         if pc = 535 then some (.getfield 123, 538, 11, [16, 0, 54]) else none
        else
         if pc = 538 then some (.ireturn, 539, 0, []) else none
       else
        if pc < 540 then
         if pc = 539 then some (.aload_n 0, 540, 0, []) else none
        else
         if pc < 541 then
          if pc = 540 then some (.aload_n 0, 541, 0, []) else none
         else
          if pc = 541 then some (.getfield 81, 544, 11, [32, 1, 54]) else none
    else
     if pc < 559 then
      if pc < 550 then
       if pc < 546 then
        if pc < 545 then
         if pc = 544 then some (.iload_n 2, 545, 2, []) else none
        else
         if pc = 545 then some (.iaload, 546, 0, []) else none
       else
        if pc < 547 then
         if pc = 546 then some (.iload_n 3, 547, 3, []) else none
        else
         if pc = 547 then some (.invokevirtual 246, 550, 130, [3, 0, 0, 3, 12, 0, 0]) else none
      else
       if pc < 554 then
        if pc < 551 then
         if pc = 550 then some (.istore_n 3, 551, 3, []) else none
        else
         if pc = 551 then some (.goto (-35), 554, 100516, []) else none
       else
        if pc < 555 then
         if pc = 554 then some (.aload_n 0, 555, 0, []) else none
        else
         if pc < 556 then
          if pc = 555 then some (.aload_n 0, 556, 0, []) else none
         else
          if pc = 556 then some (.getfield 84, 559, 11, [33, 1, 54]) else none
     else
      if pc < 100053 then
       if pc < 561 then
        if pc < 560 then
         if pc = 559 then some (.iconst 0, 560, 0, []) else none
        else
         if pc = 560 then some (.iaload, 561, 0, []) else none
       else
        if pc < 564 then
         if pc = 561 then some (.putfield 228, 564, 11, [35, 0, 54]) else none
        else
         if pc < 565 then
          if pc = 564 then some (.iconst (-1), 565, 0, []) else none
         else
          if pc = 565 then some (.ireturn, 566, 0, []) else none
      else
       if pc < 100292 then
        if pc < 100259 then
         if pc = 100053 then some (.iload 5, 55, 5, []) else none
        else
         if pc = 100259 then some (.iload 7, 261, 7, []) else none
       else
        if pc < 100402 then
         if pc = 100292 then some (.aload_n 0, 293, 0, []) else none
        else
         if pc < 100516 then
          if pc = 100402 then some (.iload_n 2, 403, 2, []) else none
         else
          if pc = 100516 then some (.iload_n 2, 517, 2, []) else none

def mc_X11_mayFollow (pc : Nat) : Option mE :=
 if pc < 32 then
  if pc < 16 then
   if pc < 6 then
    if pc < 2 then
     if pc < 1 then
      if pc = 0 then some (.iload_n 1, 1, 1, []) else none
     else
      if pc = 1 then some (.iconst 1, 2, 0, []) else none
    else
     if pc < 5 then
      if pc = 2 then some (.if_icmp .ne 42, 5, 44, []) else none
     else
      if pc = 5 then some (.aload_n 0, 6, 0, []) else none
   else
    if pc < 9 then
     if pc < 7 then
      if pc = 6 then some (.iload_n 2, 7, 2, []) else none
     else
      if pc = 7 then some (.bipush 100, 9, 0, []) else none
    else
     if pc < 10 then
      if pc = 9 then some (.iconst 0, 10, 0, []) else none
     else
      if pc < 13 then
       if pc = 10 then some (.invokevirtual 234, 13, 98, [4, 0, 0, 5, 12, 0, 0]) else none
      else
       if pc = 13 then some (.ifCond .ne 25, 16, 38, []) else none
  else
   if pc < 24 then
    if pc < 18 then
     if pc < 17 then
      if pc = 16 then some (.aload_n 0, 17, 0, []) else none
     else
      if pc = 17 then some (.iload_n 2, 18, 2, []) else none
    else
     if pc < 20 then
      if pc = 18 then some (.bipush 102, 20, 0, []) else none
     else
      if pc < 21 then
       if pc = 20 then some (.iconst 0, 21, 0, []) else none
      else
       if pc = 21 then some (.invokevirtual 234, 24, 98, [4, 0, 0, 5, 12, 0, 0]) else none
   else
    if pc < 28 then
     if pc < 27 then
      if pc = 24 then some (.ifCond .ne 14, 27, 38, []) else none
     else
      if pc = 27 then some (.aload_n 0, 28, 0, []) else none
    else
     if pc < 29 then
      if pc = 28 then some (.iload_n 2, 29, 2, []) else none
     else
      if pc < 31 then
       if pc = 29 then some (.bipush 108, 31, 0, []) else none
      else
       if pc = 31 then some (.iconst 0, 32, 0, []) else none
 else
  if pc < 49 then
   if pc < 42 then
    if pc < 38 then
     if pc < 35 then
      if pc = 32 then some (.invokevirtual 234, 35, 98, [4, 0, 0, 5, 12, 0, 0]) else none
     else
      if pc = 35 then some (.ifCond .eq 7, 38, 42, []) else none
    else
     if pc < 39 then
      if pc = 38 then some (.iconst 1, 39, 0, []) else none
     else
      if pc = 39 then some (.goto 4, 42, 43, []) else none
   else
    if pc < 44 then
     if pc < 43 then
      if pc = 42 then some (.iconst 0, 43, 0, []) else none
     else
      if pc = 43 then some (.ireturn, 44, 2, []) else none
    else
     if pc < 45 then
      if pc = 44 then some (.iload_n 1, 45, 1, []) else none
     else
      if pc < 48 then
       if pc = 45 then some (.ifCond .eq 16, 48, 61, []) else none
      else
       if pc = 48 then some (.iload_n 1, 49, 1, []) else none
  else
   if pc < 58 then
    if pc < 53 then
     if pc < 50 then
      if pc = 49 then some (.iconst 5, 50, 0, []) else none
     else
      if pc = 50 then some (.if_icmp .eq 11, 53, 61, []) else none
    else
     if pc < 54 then
      if pc = 53 then some (.aload_n 0, 54, 0, []) else none
     else
      if pc < 55 then
       if pc = 54 then some (.iload_n 2, 55, 2, []) else none
      else
       if pc = 55 then some (.invokevirtual 249, 58, 125, [2, 0, 0, 5, 12, 0, 0]) else none
   else
    if pc < 62 then
     if pc < 61 then
      if pc = 58 then some (.ifCond .eq 7, 61, 65, []) else none
     else
      if pc = 61 then some (.iconst 1, 62, 0, []) else none
    else
     if pc < 65 then
      if pc = 62 then some (.goto 4, 65, 66, []) else none
     else
      if pc < 66 then
       if pc = 65 then some (.iconst 0, 66, 0, []) else none
      else
       if pc = 66 then some (.ireturn, 67, 2, []) else none

def mc_X11_applyNots (pc : Nat) : Option mE :=
 if pc < 28 then
  if pc < 13 then
   if pc < 7 then
    if pc < 3 then
     if pc < 1 then
      if pc = 0 then some (.iload_n 1, 1, 1, []) else none
     else
      if pc = 1 then some (.istore_n 3, 100002, 3, []) else none
    else
     if pc < 6 then
      if pc = 3 then some (.ifCond .le 45, 6, 48, []) else none
     else
      if pc = 6 then some (.aload_n 0, 7, 0, []) else none
   else
    if pc < 11 then
     if pc < 10 then
      if pc = 7 then some (.getfield 81, 10, 11, [32, 1, 54]) else none
     else
      if pc = 10 then some (.iload_n 3, 11, 3, []) else none
    else
     if pc < 12 then
      if pc = 11 then some (.iconst 1, 12, 0, []) else none
     else
      if pc = 12 then some (.isub, 13, 0, []) else none
  else
   if pc < 22 then
    if pc < 16 then
     if pc < 14 then
      if pc = 13 then some (.iaload, 14, 0, []) else none
     else
      if pc = 14 then some (.bipush 9, 16, 0, []) else none
    else
     if pc < 19 then
      if pc = 16 then some (.if_icmp .ne 32, 19, 48, []) else none
     else
      if pc = 19 then some (.iinc 3 (-1), 22, 3, []) else none
   else
    if pc < 26 then
     if pc < 23 then
      if pc = 22 then some (.aload_n 0, 23, 0, []) else none
     else
      if pc = 23 then some (.getfield 84, 26, 11, [33, 1, 54]) else none
    else
     if pc < 27 then
      if pc = 26 then some (.iload_n 2, 27, 2, []) else none
     else
      if pc = 27 then some (.iconst 1, 28, 0, []) else none
 else
  if pc < 39 then
   if pc < 33 then
    if pc < 30 then
     if pc < 29 then
      if pc = 28 then some (.isub, 29, 0, []) else none
     else
      if pc = 29 then some (.aload_n 0, 30, 0, []) else none
    else
     if pc < 32 then
      if pc = 30 then some (.bipush 9, 32, 0, []) else none
     else
      if pc = 32 then some (.aload_n 0, 33, 0, []) else none
   else
    if pc < 37 then
     if pc < 36 then
      if pc = 33 then some (.getfield 84, 36, 11, [33, 1, 54]) else none
     else
      if pc = 36 then some (.iload_n 2, 37, 2, []) else none
    else
     if pc < 38 then
      if pc = 37 then some (.iconst 1, 38, 0, []) else none
     else
      if pc = 38 then some (.isub, 39, 0, []) else none
  else
   if pc < 45 then
    if pc < 41 then
     if pc < 40 then
      if pc = 39 then some (.iaload, 40, 0, []) else none
     else
      if pc = 40 then some (.iconst 0, 41, 0, []) else none
    else
     if pc < 44 then
      if pc = 41 then some (.invokevirtual 224, 44, 126, [4, 0, 0, 4, 12, 0, 0]) else none
     else
      if pc = 44 then some (.iastore, 45, 0, []) else none
   else
    if pc < 49 then
     if pc < 48 then
      if pc = 45 then some (.goto (-43), 48, 100002, []) else none
     else
      if pc = 48 then some (.iload_n 3, 49, 3, []) else none
    else
     if pc < 100002 then
      if pc = 49 then some (.ireturn, 50, 0, []) else none
     else
      if pc = 100002 then some (.iload_n 3, 3, 3, []) else none

def mc_X11_applyTwo (pc : Nat) : Option mE :=
 if pc < 16 then
  if pc < 8 then
   if pc < 5 then
    if pc < 1 then
     if pc = 0 then some (.aload_n 0, 1, 0, []) else none
    else
     if pc < 4 then
      if pc = 1 then some (.getfield 84, 4, 11, [33, 1, 54]) else none
     else
      if pc = 4 then some (.iload_n 2, 5, 2, []) else none
   else
    if pc < 6 then
     if pc = 5 then some (.iconst 2, 6, 0, []) else none
    else
     if pc < 7 then
      if pc = 6 then some (.isub, 7, 0, []) else none
     else
      if pc = 7 then some (.aload_n 0, 8, 0, []) else none
  else
   if pc < 13 then
    if pc < 9 then
     if pc = 8 then some (.iload_n 1, 9, 1, []) else none
    else
     if pc < 10 then
      if pc = 9 then some (.aload_n 0, 10, 0, []) else none
     else
      if pc = 10 then some (.getfield 84, 13, 11, [33, 1, 54]) else none
   else
    if pc < 14 then
     if pc = 13 then some (.iload_n 2, 14, 2, []) else none
    else
     if pc < 15 then
      if pc = 14 then some (.iconst 2, 15, 0, []) else none
     else
      if pc = 15 then some (.isub, 16, 0, []) else none
 else
  if pc < 24 then
   if pc < 21 then
    if pc < 17 then
     if pc = 16 then some (.iaload, 17, 0, []) else none
    else
     if pc < 18 then
      if pc = 17 then some (.aload_n 0, 18, 0, []) else none
     else
      if pc = 18 then some (.getfield 84, 21, 11, [33, 1, 54]) else none
   else
    if pc < 22 then
     if pc = 21 then some (.iload_n 2, 22, 2, []) else none
    else
     if pc < 23 then
      if pc = 22 then some (.iconst 1, 23, 0, []) else none
     else
      if pc = 23 then some (.isub, 24, 0, []) else none
  else
   if pc < 29 then
    if pc < 25 then
     if pc = 24 then some (.iaload, 25, 0, []) else none
    else
     if pc < 28 then
      if pc = 25 then some (.invokevirtual 224, 28, 126, [4, 0, 0, 4, 12, 0, 0]) else none
     else
      if pc = 28 then some (.iastore, 29, 0, []) else none
   else
    if pc < 31 then
     if pc < 30 then
      if pc = 29 then some (.iload_n 2, 30, 2, []) else none
     else
      if pc = 30 then some (.iconst 1, 31, 0, []) else none
    else
     if pc < 32 then
      if pc = 31 then some (.isub, 32, 0, []) else none
     else
      if pc = 32 then some (.ireturn, 33, 0, []) else none

def mc_X11_setEnd (pc : Nat) : Option mE :=
 if pc < 59 then
  if pc < 27 then
   if pc < 13 then
    if pc < 4 then
     if pc < 2 then
      if pc < 1 then
       if pc = 0 then some (.iload_n 1, 1, 1, []) else none
      else
       if pc = 1 then some (.iconst 1, 2, 0, []) else none
     else
      if pc < 3 then
       if pc = 2 then some (.iadd, 3, 0, []) else none
      else
       if pc = 3 then some (.istore_n 3, 4, 3, []) else none
    else
     if pc < 6 then
      if pc < 5 then
       if pc = 4 then some (.iload_n 3, 5, 3, []) else none
      else
       if pc = 5 then some (.iload_n 2, 6, 2, []) else none
     else
      if pc < 9 then
       if pc = 6 then some (.if_icmp .ge 20, 9, 26, []) else none
      else
       if pc < 10 then
        if pc = 9 then some (.aload_n 0, 10, 0, []) else none
       else
        if pc = 10 then some (.getfield 47, 13, 11, [14, 1, 54]) else none
   else
    if pc < 20 then
     if pc < 15 then
      if pc < 14 then
       if pc = 13 then some (.iload_n 3, 14, 3, []) else none
      else
       if pc = 14 then some (.caload, 15, 0, []) else none
     else
      if pc < 17 then
       if pc = 15 then some (.bipush 33, 17, 0, []) else none
      else
       if pc = 17 then some (.if_icmp .ne 9, 20, 26, []) else none
    else
     if pc < 22 then
      if pc < 21 then
       if pc = 20 then some (.iload_n 3, 21, 3, []) else none
      else
       if pc = 21 then some (.iconst 1, 22, 0, []) else none
     else
      if pc < 23 then
       if pc = 22 then some (.iadd, 23, 0, []) else none
      else
       if pc < 26 then
        if pc = 23 then some (.goto 4, 26, 27, []) else none
       else
        if pc = 26 then some (.iload_n 3, 27, 3, []) else none
  else
   if pc < 45 then
    if pc < 33 then
     if pc < 29 then
      if pc < 28 then
       if pc = 27 then some (.istore_n 3, 28, 3, []) else none
      else
       if pc = 28 then some (.iconst 1, 29, 0, []) else none
     else
      if pc < 32 then
       if pc = 29 then some (.istore 4, 100031, 4, []) else none
      else
       if pc = 32 then some (.iload_n 2, 33, 2, []) else none
    else
     if pc < 38 then
      if pc < 36 then
       if pc = 33 then some (.if_icmp .ge 68, 36, 101, []) else none
      else
       if pc = 36 then some (.iload 4, 38, 4, []) else none
     else
      if pc < 41 then
       if pc = 38 then some (.ifCond .ne 14, 41, 52, []) else none
      else
       if pc < 42 then
        if pc = 41 then some (.aload_n 0, 42, 0, []) else none
       else
        if pc = 42 then some (.getfield 47, 45, 11, [14, 1, 54]) else none
   else
    if pc < 52 then
     if pc < 47 then
      if pc < 46 then
       if pc = 45 then some (.iload_n 3, 46, 3, []) else none
      else
       if pc = 46 then some (.caload, 47, 0, []) else none
     else
      if pc < 49 then
       if pc = 47 then some (.bipush 93, 49, 0, []) else none
      else
       if pc = 49 then some (.if_icmp .eq 52, 52, 101, []) else none
    else
     if pc < 54 then
      if pc < 53 then
       if pc = 52 then some (.iload_n 3, 53, 3, []) else none
      else
       if pc = 53 then some (.iconst 2, 54, 0, []) else none
     else
      if pc < 55 then
       if pc = 54 then some (.iadd, 55, 0, []) else none
      else
       if pc < 56 then
        if pc = 55 then some (.iload_n 2, 56, 2, []) else none
       else
        if pc = 56 then some (.if_icmp .ge 35, 59, 91, []) else none
 else
  if pc < 87 then
   if pc < 73 then
    if pc < 65 then
     if pc < 63 then
      if pc < 60 then
       if pc = 59 then some (.aload_n 0, 60, 0, []) else none
      else
       if pc = 60 then some (.getfield 47, 63, 11, [14, 1, 54]) else none
     else
      if pc < 64 then
       if pc = 63 then some (.iload_n 3, 64, 3, []) else none
      else
       if pc = 64 then some (.iconst 1, 65, 0, []) else none
    else
     if pc < 67 then
      if pc < 66 then
       if pc = 65 then some (.iadd, 66, 0, []) else none
      else
       if pc = 66 then some (.caload, 67, 0, []) else none
     else
      if pc < 69 then
       if pc = 67 then some (.bipush 45, 69, 0, []) else none
      else
       if pc < 72 then
        if pc = 69 then some (.if_icmp .ne 22, 72, 91, []) else none
       else
        if pc = 72 then some (.aload_n 0, 73, 0, []) else none
   else
    if pc < 79 then
     if pc < 77 then
      if pc < 76 then
       if pc = 73 then some (.getfield 47, 76, 11, [14, 1, 54]) else none
      else
       if pc = 76 then some (.iload_n 3, 77, 3, []) else none
     else
      if pc < 78 then
       if pc = 77 then some (.iconst 2, 78, 0, []) else none
      else
       if pc = 78 then some (.iadd, 79, 0, []) else none
    else
     if pc < 82 then
      if pc < 80 then
       if pc = 79 then some (.caload, 80, 0, []) else none
      else
       if pc = 80 then some (.bipush 93, 82, 0, []) else none
     else
      if pc < 85 then
       if pc = 82 then some (.if_icmp .eq 9, 85, 91, []) else none
      else
       if pc < 86 then
        if pc = 85 then some (.iload_n 3, 86, 3, []) else none
       else
        if pc = 86 then some (.iconst 3, 87, 0, []) else none
  else
   if pc < 101 then
    if pc < 93 then
     if pc < 91 then
      if pc < 88 then
       if pc = 87 then some (.iadd, 88, 0, []) else none
      else
       if pc = 88 then some (.goto 6, 91, 94, []) else none
     else
      if pc < 92 then
       if pc = 91 then some (.iload_n 3, 92, 3, []) else none
      else
       if pc = 92 then some (.iconst 1, 93, 0, []) else none
    else
     if pc < 95 then
      if pc < 94 then
       if pc = 93 then some (.iadd, 94, 0, []) else none
      else
       if pc = 94 then some (.istore_n 3, 95, 3, []) else none
     else
      if pc < 96 then
       if pc = 95 then some (.iconst 0, 96, 0, []) else none
      else
       if pc < 98 then
        if pc = 96 then some (.istore 4, 98, 4, []) else none
       else
        if pc = 98 then some (.goto (-67), 101, 100031, []) else none
   else
    if pc < 108 then
     if pc < 103 then
      if pc < 102 then
       if pc = 101 then some (.iload_n 3, 102, 3, []) else none
      else
       if pc = 102 then some (.iload_n 2, 103, 2, []) else none
     else
      if pc < 106 then
       if pc = 103 then some (.if_icmp .ge 9, 106, 112, []) else none
      else
       if pc < 107 then
        if pc = 106 then some (.iload_n 3, 107, 3, []) else none
       else
        if pc = 107 then some (.iconst 1, 108, 0, []) else none
    else
     if pc < 112 then
      if pc < 109 then
       if pc = 108 then some (.iadd, 109, 0, []) else none
      else
       if pc = 109 then some (.goto 4, 112, 113, []) else none
     else
      if pc < 113 then
       if pc = 112 then some (.iconst (-1), 113, 0, []) else none
      else
       if pc < 100031 then
        if pc = 113 then some (.ireturn, 114, 0, []) else none
       else
        if pc = 100031 then some (.iload_n 3, 32, 3, []) else none

def mc_X11_inSet (pc : Nat) : Option mE :=
 if pc < 84 then
  if pc < 45 then
   if pc < 21 then
    if pc < 9 then
     if pc < 3 then
      if pc < 1 then
       if pc = 0 then some (.iload_n 1, 1, 1, []) else none
      else
       if pc < 2 then
        if pc = 1 then some (.iconst 1, 2, 0, []) else none
       else
        if pc = 2 then some (.iadd, 3, 0, []) else none
     else
      if pc < 5 then
       if pc = 3 then some (.istore 4, 5, 4, []) else none
      else
       if pc < 6 then
        if pc = 5 then some (.aload_n 0, 6, 0, []) else none
       else
        if pc = 6 then some (.getfield 47, 9, 11, [14, 1, 54]) else none
    else
     if pc < 14 then
      if pc < 11 then
       if pc = 9 then some (.iload 4, 11, 4, []) else none
      else
       if pc < 12 then
        if pc = 11 then some (.caload, 12, 0, []) else none
       else
        if pc = 12 then some (.bipush 33, 14, 0, []) else none
     else
      if pc < 17 then
       if pc = 14 then some (.if_icmp .ne 7, 17, 21, []) else none
      else
       if pc < 18 then
        if pc = 17 then some (.iconst 1, 18, 0, []) else none
       else
        if pc = 18 then some (.goto 4, 21, 22, []) else none
   else
    if pc < 32 then
     if pc < 26 then
      if pc < 22 then
       if pc = 21 then some (.iconst 0, 22, 0, []) else none
      else
       if pc < 24 then
        if pc = 22 then some (.istore 5, 24, 5, []) else none
       else
        if pc = 24 then some (.iload 5, 26, 5, []) else none
     else
      if pc < 29 then
       if pc = 26 then some (.ifCond .eq 10, 29, 36, []) else none
      else
       if pc < 31 then
        if pc = 29 then some (.iload 4, 31, 4, []) else none
       else
        if pc = 31 then some (.iconst 1, 32, 0, []) else none
    else
     if pc < 38 then
      if pc < 33 then
       if pc = 32 then some (.iadd, 33, 0, []) else none
      else
       if pc < 36 then
        if pc = 33 then some (.goto 5, 36, 38, []) else none
       else
        if pc = 36 then some (.iload 4, 38, 4, []) else none
     else
      if pc < 40 then
       if pc = 38 then some (.istore 4, 40, 4, []) else none
      else
       if pc < 41 then
        if pc = 40 then some (.iconst 0, 41, 0, []) else none
       else
        if pc = 41 then some (.istore 6, 100043, 6, []) else none
  else
   if pc < 65 then
    if pc < 54 then
     if pc < 48 then
      if pc < 46 then
       if pc = 45 then some (.iload_n 2, 46, 2, []) else none
      else
       if pc < 47 then
        if pc = 46 then some (.iconst 1, 47, 0, []) else none
       else
        if pc = 47 then some (.isub, 48, 0, []) else none
     else
      if pc < 51 then
       if pc = 48 then some (.if_icmp .ge 113, 51, 161, []) else none
      else
       if pc < 53 then
        if pc = 51 then some (.iload 4, 53, 4, []) else none
       else
        if pc = 53 then some (.iconst 2, 54, 0, []) else none
    else
     if pc < 59 then
      if pc < 55 then
       if pc = 54 then some (.iadd, 55, 0, []) else none
      else
       if pc < 56 then
        if pc = 55 then some (.iload_n 2, 56, 2, []) else none
       else
        if pc = 56 then some (.if_icmp .ge 76, 59, 132, []) else none
     else
      if pc < 60 then
       if pc = 59 then some (.aload_n 0, 60, 0, []) else none
      else
       if pc < 63 then
        if pc = 60 then some (.getfield 47, 63, 11, [14, 1, 54]) else none
       else
        if pc = 63 then some (.iload 4, 65, 4, []) else none
   else
    if pc < 74 then
     if pc < 68 then
      if pc < 66 then
       if pc = 65 then some (.iconst 1, 66, 0, []) else none
      else
       if pc < 67 then
        if pc = 66 then some (.iadd, 67, 0, []) else none
       else
        if pc = 67 then some (.caload, 68, 0, []) else none
     else
      if pc < 70 then
       if pc = 68 then some (.bipush 45, 70, 0, []) else none
      else
       if pc < 73 then
        if pc = 70 then some (.if_icmp .ne 62, 73, 132, []) else none
       else
        if pc = 73 then some (.aload_n 0, 74, 0, []) else none
    else
     if pc < 80 then
      if pc < 77 then
       if pc = 74 then some (.getfield 47, 77, 11, [14, 1, 54]) else none
      else
       if pc < 79 then
        if pc = 77 then some (.iload 4, 79, 4, []) else none
       else
        if pc = 79 then some (.iconst 2, 80, 0, []) else none
     else
      if pc < 81 then
       if pc = 80 then some (.iadd, 81, 0, []) else none
      else
       if pc < 82 then
        if pc = 81 then some (.caload, 82, 0, []) else none
       else
        if pc = 82 then some (.bipush 93, 84, 0, []) else none
 else
  if pc < 127 then
   if pc < 108 then
    if pc < 97 then
     if pc < 92 then
      if pc < 87 then
       if pc = 84 then some (.if_icmp .eq 48, 87, 132, []) else none
      else
       if pc < 89 then
        if pc = 87 then some (.iload 6, 89, 6, []) else none
       else
        if pc = 89 then some (.ifCond .ne 27, 92, 116, []) else none
     else
      if pc < 93 then
       if pc = 92 then some (.iload_n 3, 93, 3, []) else none
      else
       if pc < 94 then
        if pc = 93 then some (.aload_n 0, 94, 0, []) else none
       else
        if pc = 94 then some (.getfield 47, 97, 11, [14, 1, 54]) else none
    else
     if pc < 103 then
      if pc < 99 then
       if pc = 97 then some (.iload 4, 99, 4, []) else none
      else
       if pc < 100 then
        if pc = 99 then some (.caload, 100, 0, []) else none
       else
        if pc = 100 then some (.if_icmp .lt 20, 103, 120, []) else none
     else
      if pc < 104 then
       if pc = 103 then some (.iload_n 3, 104, 3, []) else none
      else
       if pc < 105 then
        if pc = 104 then some (.aload_n 0, 105, 0, []) else none
       else
        if pc = 105 then some (.getfield 47, 108, 11, [14, 1, 54]) else none
   else
    if pc < 117 then
     if pc < 112 then
      if pc < 110 then
       if pc = 108 then some (.iload 4, 110, 4, []) else none
      else
       if pc < 111 then
        if pc = 110 then some (.iconst 2, 111, 0, []) else none
       else
        if pc = 111 then some (.iadd, 112, 0, []) else none
     else
      if pc < 113 then
       if pc = 112 then some (.caload, 113, 0, []) else none
      else
       if pc < 116 then
        if pc = 113 then some (.if_icmp .gt 7, 116, 120, []) else none
       else
        if pc = 116 then some (.iconst 1, 117, 0, []) else none
    else
     if pc < 123 then
      if pc < 120 then
       if pc = 117 then some (.goto 4, 120, 121, []) else none
      else
       if pc < 121 then
        if pc = 120 then some (.iconst 0, 121, 0, []) else none
       else
        if pc = 121 then some (.istore 6, 123, 6, []) else none
     else
      if pc < 125 then
       if pc = 123 then some (.iload 4, 125, 4, []) else none
      else
       if pc < 126 then
        if pc = 125 then some (.iconst 3, 126, 0, []) else none
       else
        if pc = 126 then some (.iadd, 127, 0, []) else none
  else
   if pc < 152 then
    if pc < 139 then
     if pc < 134 then
      if pc < 129 then
       if pc = 127 then some (.istore 4, 129, 4, []) else none
      else
       if pc < 132 then
        if pc = 129 then some (.goto (-86), 132, 100043, []) else none
       else
        if pc = 132 then some (.iload 6, 134, 6, []) else none
     else
      if pc < 137 then
       if pc = 134 then some (.ifCond .ne 14, 137, 148, []) else none
      else
       if pc < 138 then
        if pc = 137 then some (.iload_n 3, 138, 3, []) else none
       else
        if pc = 138 then some (.aload_n 0, 139, 0, []) else none
    else
     if pc < 145 then
      if pc < 142 then
       if pc = 139 then some (.getfield 47, 142, 11, [14, 1, 54]) else none
      else
       if pc < 144 then
        if pc = 142 then some (.iload 4, 144, 4, []) else none
       else
        if pc = 144 then some (.caload, 145, 0, []) else none
     else
      if pc < 148 then
       if pc = 145 then some (.if_icmp .ne 7, 148, 152, []) else none
      else
       if pc < 149 then
        if pc = 148 then some (.iconst 1, 149, 0, []) else none
       else
        if pc = 149 then some (.goto 4, 152, 153, []) else none
   else
    if pc < 165 then
     if pc < 158 then
      if pc < 153 then
       if pc = 152 then some (.iconst 0, 153, 0, []) else none
      else
       if pc < 155 then
        if pc = 153 then some (.istore 6, 155, 6, []) else none
       else
        if pc = 155 then some (.iinc 4 1, 158, 4, []) else none
     else
      if pc < 161 then
       if pc = 158 then some (.goto (-115), 161, 100043, []) else none
      else
       if pc < 163 then
        if pc = 161 then some (.iload 6, 163, 6, []) else none
       else
        if pc = 163 then some (.iload 5, 165, 5, []) else none
    else
     if pc < 172 then
      if pc < 168 then
       if pc = 165 then some (.if_icmp .eq 7, 168, 172, []) else none
      else
       if pc < 169 then
        if pc = 168 then some (.iconst 1, 169, 0, []) else none
       else
        if pc = 169 then some (.goto 4, 172, 173, []) else none
     else
      if pc < 173 then
       if pc = 172 then some (.iconst 0, 173, 0, []) else none
      else
       if pc < 100043 then
        if pc = 173 then some (.ireturn, 174, 2, []) else none
       else
        if pc = 100043 then some (.iload 4, 45, 4, []) else none

def mc_X11_matches (pc : Nat) : Option mE :=
 if pc < 143 then
  if pc < 65 then
   if pc < 31 then
    if pc < 14 then
     if pc < 8 then
      if pc < 4 then
       if pc < 1 then
        if pc = 0 then some (.aload_n 0, 1, 0, []) else none
       else
        if pc = 1 then some (.getfield 252, 4, 11, [45, 0, 54]) else none
      else
       if pc < 5 then
        if pc = 4 then some (.aload_n 0, 5, 0, []) else none
       else
        if pc = 5 then some (.getfield 255, 8, 11, [44, 0, 54]) else none
     else
      if pc < 10 then
       if pc < 9 then
        if pc = 8 then some (.isub, 9, 0, []) else none
       else
        if pc = 9 then some (.istore_n 2, 10, 2, []) else none
      else
       if pc < 11 then
        if pc = 10 then some (.iconst 0, 11, 0, []) else none
       else
        if pc < 13 then
         if pc = 11 then some (.istore_n 3, 100012, 3, []) else none
        else
         if pc = 13 then some (.iload_n 2, 14, 2, []) else none
    else
     if pc < 22 then
      if pc < 18 then
       if pc < 17 then
        if pc = 14 then some (.if_icmp .gt 24, 17, 38, []) else none
       else
        if pc = 17 then some (.aload_n 0, 18, 0, []) else none
      else
       if pc < 21 then
        if pc = 18 then some (.getfield 105, 21, 11, [50, 1, 54]) else none
       else
        if pc = 21 then some (.iload_n 3, 22, 3, []) else none
     else
      if pc < 26 then
       if pc < 23 then
        if pc = 22 then some (.iload_n 3, 23, 3, []) else none
       else
        if pc = 23 then some (.ifCond .ne 7, 26, 30, []) else none
      else
       if pc < 27 then
        if pc = 26 then some (.iconst 1, 27, 0, []) else none
       else
        if pc < 30 then
         if pc = 27 then some (.goto 4, 30, 31, []) else none
        else
         if pc = 30 then some (.iconst 0, 31, 0, []) else none
   else
    if pc < 46 then
     if pc < 39 then
      if pc < 35 then
       if pc < 32 then
        if pc = 31 then some (.bastore, 32, 0, []) else none
       else
        if pc = 32 then some (.iinc 3 1, 35, 3, []) else none
      else
       if pc < 38 then
        if pc = 35 then some (.goto (-23), 38, 100012, []) else none
       else
        if pc = 38 then some (.aload_n 0, 39, 0, []) else none
     else
      if pc < 43 then
       if pc < 42 then
        if pc = 39 then some (.getfield 50, 42, 11, [17, 1, 54]) else none
       else
        if pc = 42 then some (.iload_n 1, 43, 1, []) else none
      else
       if pc < 44 then
        if pc = 43 then some (.iaload, 44, 0, []) else none
       else
        if pc < 45 then
         if pc = 44 then some (.istore_n 3, 45, 3, []) else none
        else
         if pc = 45 then some (.aload_n 0, 46, 0, []) else none
    else
     if pc < 56 then
      if pc < 50 then
       if pc < 49 then
        if pc = 46 then some (.getfield 53, 49, 11, [18, 1, 54]) else none
       else
        if pc = 49 then some (.iload_n 1, 50, 1, []) else none
      else
       if pc < 51 then
        if pc = 50 then some (.iaload, 51, 0, []) else none
       else
        if pc < 54 then
         if pc = 51 then some (.istore 4, 100053, 4, []) else none
        else
         if pc = 54 then some (.iload 4, 56, 4, []) else none
     else
      if pc < 60 then
       if pc < 59 then
        if pc = 56 then some (.if_icmp .ge 217, 59, 273, []) else none
       else
        if pc = 59 then some (.aload_n 0, 60, 0, []) else none
      else
       if pc < 63 then
        if pc = 60 then some (.getfield 47, 63, 11, [14, 1, 54]) else none
       else
        if pc < 64 then
         if pc = 63 then some (.iload_n 3, 64, 3, []) else none
        else
         if pc = 64 then some (.caload, 65, 0, []) else none
  else
   if pc < 105 then
    if pc < 84 then
     if pc < 74 then
      if pc < 69 then
       if pc < 67 then
        if pc = 65 then some (.istore 5, 67, 5, []) else none
       else
        if pc = 67 then some (.iload 5, 69, 5, []) else none
      else
       if pc < 71 then
        if pc = 69 then some (.bipush 42, 71, 0, []) else none
       else
        if pc = 71 then some (.if_icmp .ne 58, 74, 129, []) else none
     else
      if pc < 79 then
       if pc < 75 then
        if pc = 74 then some (.iconst 1, 75, 0, []) else none
       else
        if pc = 75 then some (.istore 6, 100077, 6, []) else none
      else
       if pc < 80 then
        if pc = 79 then some (.iload_n 2, 80, 2, []) else none
       else
        if pc < 83 then
         if pc = 80 then some (.if_icmp .gt 43, 83, 123, []) else none
        else
         if pc = 83 then some (.aload_n 0, 84, 0, []) else none
    else
     if pc < 95 then
      if pc < 89 then
       if pc < 87 then
        if pc = 84 then some (.getfield 105, 87, 11, [50, 1, 54]) else none
       else
        if pc = 87 then some (.iload 6, 89, 6, []) else none
      else
       if pc < 90 then
        if pc = 89 then some (.aload_n 0, 90, 0, []) else none
       else
        if pc < 93 then
         if pc = 90 then some (.getfield 105, 93, 11, [50, 1, 54]) else none
        else
         if pc = 93 then some (.iload 6, 95, 6, []) else none
     else
      if pc < 99 then
       if pc < 96 then
        if pc = 95 then some (.baload, 96, 0, []) else none
       else
        if pc = 96 then some (.ifCond .ne 15, 99, 111, []) else none
      else
       if pc < 100 then
        if pc = 99 then some (.aload_n 0, 100, 0, []) else none
       else
        if pc < 103 then
         if pc = 100 then some (.getfield 105, 103, 11, [50, 1, 54]) else none
        else
         if pc = 103 then some (.iload 6, 105, 6, []) else none
   else
    if pc < 120 then
     if pc < 111 then
      if pc < 107 then
       if pc < 106 then
        if pc = 105 then some (.iconst 1, 106, 0, []) else none
       else
        if pc = 106 then some (.isub, 107, 0, []) else none
      else
       if pc < 108 then
        if pc = 107 then some (.baload, 108, 0, []) else none
       else
        if pc = 108 then some (.ifCond .eq 7, 111, 115, []) else none
     else
      if pc < 115 then
       if pc < 112 then
        if pc = 111 then some (.iconst 1, 112, 0, []) else none
       else
        if pc = 112 then some (.goto 4, 115, 116, []) else none
      else
       if pc < 116 then
        if pc = 115 then some (.iconst 0, 116, 0, []) else none
       else
        if pc < 117 then
         if pc = 116 then some (.bastore, 117, 0, []) else none
        else
         if pc = 117 then some (.iinc 6 1, 120, 6, []) else none
    else
     if pc < 133 then
      if pc < 126 then
       if pc < 123 then
        if pc = 120 then some (.goto (-43), 123, 100077, []) else none
       else
        if pc = 123 then some (.iinc 3 1, 126, 3, []) else none
      else
       if pc < 129 then
        if pc = 126 then some (.goto 144, 129, 270, []) else none
       else
        if pc < 131 then
         if pc = 129 then some (.iload 5, 131, 5, []) else none
        else
         if pc = 131 then some (.bipush 91, 133, 0, []) else none
     else
      if pc < 137 then
       if pc < 136 then
        if pc = 133 then some (.if_icmp .ne 13, 136, 146, []) else none
       else
        if pc = 136 then some (.aload_n 0, 137, 0, []) else none
      else
       if pc < 138 then
        if pc = 137 then some (.iload_n 3, 138, 3, []) else none
       else
        if pc < 140 then
         if pc = 138 then some (.iload 4, 140, 4, []) else none
        else
         if pc = 140 then some (.invokevirtual 258, 143, 131, [3, 0, 0, 5, 12, 0, 0]) else none
 else
  if pc < 220 then
   if pc < 180 then
    if pc < 162 then
     if pc < 150 then
      if pc < 147 then
       if pc < 146 then
        if pc = 143 then some (.goto 4, 146, 147, []) else none
       else
        if pc = 146 then some (.iconst (-1), 147, 0, []) else none
      else
       if pc < 149 then
        if pc = 147 then some (.istore 6, 149, 6, []) else none
       else
        if pc = 149 then some (.iload_n 2, 150, 2, []) else none
     else
      if pc < 157 then
       if pc < 154 then
        if pc = 150 then some (.istore 7, 100152, 7, []) else none
       else
        if pc = 154 then some (.ifCond .le 95, 157, 249, []) else none
      else
       if pc < 158 then
        if pc = 157 then some (.aload_n 0, 158, 0, []) else none
       else
        if pc < 161 then
         if pc = 158 then some (.getfield 90, 161, 11, [42, 1, 54]) else none
        else
         if pc = 161 then some (.aload_n 0, 162, 0, []) else none
    else
     if pc < 170 then
      if pc < 167 then
       if pc < 165 then
        if pc = 162 then some (.getfield 255, 165, 11, [44, 0, 54]) else none
       else
        if pc = 165 then some (.iload 7, 167, 7, []) else none
      else
       if pc < 168 then
        if pc = 167 then some (.iadd, 168, 0, []) else none
       else
        if pc < 169 then
         if pc = 168 then some (.iconst 1, 169, 0, []) else none
        else
         if pc = 169 then some (.isub, 170, 0, []) else none
     else
      if pc < 173 then
       if pc < 171 then
        if pc = 170 then some (.caload, 171, 0, []) else none
       else
        if pc = 171 then some (.istore 8, 173, 8, []) else none
      else
       if pc < 175 then
        if pc = 173 then some (.iload 5, 175, 5, []) else none
       else
        if pc < 177 then
         if pc = 175 then some (.bipush 63, 177, 0, []) else none
        else
         if pc = 177 then some (.if_icmp .eq 30, 180, 207, []) else none
   else
    if pc < 200 then
     if pc < 187 then
      if pc < 185 then
       if pc < 182 then
        if pc = 180 then some (.iload 6, 182, 6, []) else none
       else
        if pc = 182 then some (.ifCond .le 18, 185, 200, []) else none
      else
       if pc < 186 then
        if pc = 185 then some (.aload_n 0, 186, 0, []) else none
       else
        if pc = 186 then some (.iload_n 3, 187, 3, []) else none
     else
      if pc < 191 then
       if pc < 189 then
        if pc = 187 then some (.iload 6, 189, 6, []) else none
       else
        if pc = 189 then some (.iload 8, 191, 8, []) else none
      else
       if pc < 194 then
        if pc = 191 then some (.invokevirtual 261, 194, 132, [4, 0, 0, 7, 12, 0, 0]) else none
       else
        if pc < 197 then
         if pc = 194 then some (.ifCond .eq 17, 197, 211, []) else none
        else
         if pc = 197 then some (.goto 10, 200, 207, []) else none
    else
     if pc < 211 then
      if pc < 204 then
       if pc < 202 then
        if pc = 200 then some (.iload 8, 202, 8, []) else none
       else
        if pc = 202 then some (.iload 5, 204, 5, []) else none
      else
       if pc < 207 then
        if pc = 204 then some (.if_icmp .ne 7, 207, 211, []) else none
       else
        if pc < 208 then
         if pc = 207 then some (.iconst 1, 208, 0, []) else none
        else
         if pc = 208 then some (.goto 4, 211, 212, []) else none
     else
      if pc < 214 then
       if pc < 212 then
        if pc = 211 then some (.iconst 0, 212, 0, []) else none
       else
        if pc = 212 then some (.istore 9, 214, 9, []) else none
      else
       if pc < 215 then
        if pc = 214 then some (.aload_n 0, 215, 0, []) else none
       else
        if pc < 218 then
         if pc = 215 then some (.getfield 105, 218, 11, [50, 1, 54]) else none
        else
         if pc = 218 then some (.iload 7, 220, 7, []) else none
  else
   if pc < 255 then
    if pc < 237 then
     if pc < 227 then
      if pc < 224 then
       if pc < 221 then
        if pc = 220 then some (.aload_n 0, 221, 0, []) else none
       else
        if pc = 221 then some (.getfield 105, 224, 11, [50, 1, 54]) else none
      else
       if pc < 226 then
        if pc = 224 then some (.iload 7, 226, 7, []) else none
       else
        if pc = 226 then some (.iconst 1, 227, 0, []) else none
     else
      if pc < 229 then
       if pc < 228 then
        if pc = 227 then some (.isub, 228, 0, []) else none
       else
        if pc = 228 then some (.baload, 229, 0, []) else none
      else
       if pc < 232 then
        if pc = 229 then some (.ifCond .eq 12, 232, 241, []) else none
       else
        if pc < 234 then
         if pc = 232 then some (.iload 9, 234, 9, []) else none
        else
         if pc = 234 then some (.ifCond .eq 7, 237, 241, []) else none
    else
     if pc < 246 then
      if pc < 241 then
       if pc < 238 then
        if pc = 237 then some (.iconst 1, 238, 0, []) else none
       else
        if pc = 238 then some (.goto 4, 241, 242, []) else none
      else
       if pc < 242 then
        if pc = 241 then some (.iconst 0, 242, 0, []) else none
       else
        if pc < 243 then
         if pc = 242 then some (.bastore, 243, 0, []) else none
        else
         if pc = 243 then some (.iinc 7 (-1), 246, 7, []) else none
     else
      if pc < 250 then
       if pc < 249 then
        if pc = 246 then some (.goto (-94), 249, 100152, []) else none
       else
        if pc = 249 then some (.aload_n 0, 250, 0, []) else none
      else
       if pc < 253 then
        if pc = 250 then some (.getfield 105, 253, 11, [50, 1, 54]) else none
       else
        if pc < 254 then
         if pc = 253 then some (.iconst 0, 254, 0, []) else none
        else
         if pc = 254 then some (.iconst 0, 255, 0, []) else none
   else
    if pc < 270 then
     if pc < 263 then
      if pc < 258 then
       if pc < 256 then
        if pc = 255 then some (.bastore, 256, 0, []) else none
       else
        if pc = 256 then some (.iload 6, 258, 6, []) else none
      else
       if pc < 261 then
        if pc = 258 then some (.ifCond .le 8, 261, 266, []) else none
       else
        if pc = 261 then some (.iload 6, 263, 6, []) else none
     else
      if pc < 267 then
       if pc < 266 then
        if pc = 263 then some (.goto 6, 266, 269, []) else none
       else
        if pc = 266 then some (.iload_n 3, 267, 3, []) else none
      else
       if pc < 268 then
        if pc = 267 then some (.iconst 1, 268, 0, []) else none
       else
        if pc < 269 then
         if pc = 268 then some (.iadd, 269, 0, []) else none
        else
         if pc = 269 then some (.istore_n 3, 270, 3, []) else none
    else
     if pc < 279 then
      if pc < 274 then
       if pc < 273 then
        if pc = 270 then some (.goto (-217), 273, 100053, []) else none
       else
        if pc = 273 then some (.aload_n 0, 274, 0, []) else none
      else
       if pc < 277 then
        if pc = 274 then some (.getfield 105, 277, 11, [50, 1, 54]) else none
       else
        if pc < 278 then
         if pc = 277 then some (.iload_n 2, 278, 2, []) else none
        else
         if pc = 278 then some (.baload, 279, 0, []) else none
     else
      if pc < 100053 then
       if pc < 100012 then
        if pc = 279 then some (.ireturn, 280, 2, []) else none
       else
        if pc = 100012 then some (.iload_n 3, 13, 3, []) else none
      else
       if pc < 100077 then
        if pc = 100053 then some (.iload_n 3, 54, 3, []) else none
       else
        if pc < 100152 then
         if pc = 100077 then some (.iload 6, 79, 6, []) else none
        else
         if pc = 100152 then some (.iload 7, 154, 7, []) else none

def mc_X11_compares (pc : Nat) : Option mE :=
 if pc < 63 then
  if pc < 31 then
   if pc < 13 then
    if pc < 6 then
     if pc < 4 then
      if pc < 1 then
       if pc = 0 then some (.aload_n 0, 1, 0, []) else none
      else
       if pc = 1 then some (.getfield 50, 4, 11, [17, 1, 54]) else none
     else
      if pc < 5 then
       if pc = 4 then some (.iload_n 2, 5, 2, []) else none
      else
       if pc = 5 then some (.iaload, 6, 0, []) else none
    else
     if pc < 8 then
      if pc < 7 then
       if pc = 6 then some (.istore_n 3, 7, 3, []) else none
      else
       if pc = 7 then some (.aload_n 0, 8, 0, []) else none
     else
      if pc < 11 then
       if pc = 8 then some (.getfield 47, 11, 11, [14, 1, 54]) else none
      else
       if pc < 12 then
        if pc = 11 then some (.iload_n 3, 12, 3, []) else none
       else
        if pc = 12 then some (.caload, 13, 0, []) else none
   else
    if pc < 22 then
     if pc < 17 then
      if pc < 15 then
       if pc = 13 then some (.istore 4, 15, 4, []) else none
      else
       if pc = 15 then some (.iload 4, 17, 4, []) else none
     else
      if pc < 19 then
       if pc = 17 then some (.bipush 43, 19, 0, []) else none
      else
       if pc = 19 then some (.if_icmp .eq 10, 22, 29, []) else none
    else
     if pc < 26 then
      if pc < 24 then
       if pc = 22 then some (.iload 4, 24, 4, []) else none
      else
       if pc = 24 then some (.bipush 45, 26, 0, []) else none
     else
      if pc < 29 then
       if pc = 26 then some (.if_icmp .ne 9, 29, 35, []) else none
      else
       if pc < 30 then
        if pc = 29 then some (.iload_n 3, 30, 3, []) else none
       else
        if pc = 30 then some (.iconst 1, 31, 0, []) else none
  else
   if pc < 46 then
    if pc < 37 then
     if pc < 35 then
      if pc < 32 then
       if pc = 31 then some (.iadd, 32, 0, []) else none
      else
       if pc = 32 then some (.goto 4, 35, 36, []) else none
     else
      if pc < 36 then
       if pc = 35 then some (.iload_n 3, 36, 3, []) else none
      else
       if pc = 36 then some (.istore_n 3, 37, 3, []) else none
    else
     if pc < 40 then
      if pc < 38 then
       if pc = 37 then some (.iconst 0, 38, 0, []) else none
      else
       if pc = 38 then some (.istore 5, 40, 5, []) else none
     else
      if pc < 41 then
       if pc = 40 then some (.iload_n 3, 41, 3, []) else none
      else
       if pc < 45 then
        if pc = 41 then some (.istore 6, 100043, 6, []) else none
       else
        if pc = 45 then some (.aload_n 0, 46, 0, []) else none
   else
    if pc < 54 then
     if pc < 50 then
      if pc < 49 then
       if pc = 46 then some (.getfield 53, 49, 11, [18, 1, 54]) else none
      else
       if pc = 49 then some (.iload_n 2, 50, 2, []) else none
     else
      if pc < 51 then
       if pc = 50 then some (.iaload, 51, 0, []) else none
      else
       if pc = 51 then some (.if_icmp .ge 27, 54, 78, []) else none
    else
     if pc < 58 then
      if pc < 56 then
       if pc = 54 then some (.bipush 10, 56, 0, []) else none
      else
       if pc = 56 then some (.iload 5, 58, 5, []) else none
     else
      if pc < 59 then
       if pc = 58 then some (.imul, 59, 0, []) else none
      else
       if pc < 60 then
        if pc = 59 then some (.aload_n 0, 60, 0, []) else none
       else
        if pc = 60 then some (.getfield 47, 63, 11, [14, 1, 54]) else none
 else
  if pc < 99 then
   if pc < 80 then
    if pc < 69 then
     if pc < 66 then
      if pc < 65 then
       if pc = 63 then some (.iload 6, 65, 6, []) else none
      else
       if pc = 65 then some (.caload, 66, 0, []) else none
     else
      if pc < 67 then
       if pc = 66 then some (.iadd, 67, 0, []) else none
      else
       if pc = 67 then some (.bipush 48, 69, 0, []) else none
    else
     if pc < 72 then
      if pc < 70 then
       if pc = 69 then some (.isub, 70, 0, []) else none
      else
       if pc = 70 then some (.istore 5, 72, 5, []) else none
     else
      if pc < 75 then
       if pc = 72 then some (.iinc 6 1, 75, 6, []) else none
      else
       if pc < 78 then
        if pc = 75 then some (.goto (-32), 78, 100043, []) else none
       else
        if pc = 78 then some (.iload 4, 80, 4, []) else none
   else
    if pc < 88 then
     if pc < 85 then
      if pc < 82 then
       if pc = 80 then some (.bipush 43, 82, 0, []) else none
      else
       if pc = 82 then some (.if_icmp .ne 17, 85, 99, []) else none
     else
      if pc < 86 then
       if pc = 85 then some (.iload_n 1, 86, 1, []) else none
      else
       if pc = 86 then some (.iload 5, 88, 5, []) else none
    else
     if pc < 92 then
      if pc < 91 then
       if pc = 88 then some (.if_icmp .le 7, 91, 95, []) else none
      else
       if pc = 91 then some (.iconst 1, 92, 0, []) else none
     else
      if pc < 95 then
       if pc = 92 then some (.goto 39, 95, 131, []) else none
      else
       if pc < 96 then
        if pc = 95 then some (.iconst 0, 96, 0, []) else none
       else
        if pc = 96 then some (.goto 35, 99, 131, []) else none
  else
   if pc < 117 then
    if pc < 107 then
     if pc < 103 then
      if pc < 101 then
       if pc = 99 then some (.iload 4, 101, 4, []) else none
      else
       if pc = 101 then some (.bipush 45, 103, 0, []) else none
     else
      if pc < 106 then
       if pc = 103 then some (.if_icmp .ne 17, 106, 120, []) else none
      else
       if pc = 106 then some (.iload_n 1, 107, 1, []) else none
    else
     if pc < 112 then
      if pc < 109 then
       if pc = 107 then some (.iload 5, 109, 5, []) else none
      else
       if pc = 109 then some (.if_icmp .ge 7, 112, 116, []) else none
     else
      if pc < 113 then
       if pc = 112 then some (.iconst 1, 113, 0, []) else none
      else
       if pc < 116 then
        if pc = 113 then some (.goto 18, 116, 131, []) else none
       else
        if pc = 116 then some (.iconst 0, 117, 0, []) else none
   else
    if pc < 126 then
     if pc < 121 then
      if pc < 120 then
       if pc = 117 then some (.goto 14, 120, 131, []) else none
      else
       if pc = 120 then some (.iload_n 1, 121, 1, []) else none
     else
      if pc < 123 then
       if pc = 121 then some (.iload 5, 123, 5, []) else none
      else
       if pc = 123 then some (.if_icmp .ne 7, 126, 130, []) else none
    else
     if pc < 130 then
      if pc < 127 then
       if pc = 126 then some (.iconst 1, 127, 0, []) else none
      else
       if pc = 127 then some (.goto 4, 130, 131, []) else none
     else
      if pc < 131 then
       if pc = 130 then some (.iconst 0, 131, 0, []) else none
      else
       if pc < 100043 then
        if pc = 131 then some (.ireturn, 132, 2, []) else none
       else
        if pc = 100043 then some (.iload 6, 45, 6, []) else none

def mc_X11_print (pc : Nat) : Option mE :=
 if pc < 37 then
  if pc < 18 then
   if pc < 11 then
    if pc < 4 then
     if pc < 1 then
      if pc = 0 then some (.aload_n 0, 1, 0, []) else none
     else
      if pc = 1 then some (.getfield 265, 4, 11, [40, 0, 54]) else none
    else
     if pc < 7 then
      if pc = 4 then some (.ifCond .ne 20, 7, 24, []) else none
     else
      if pc < 8 then
       if pc = 7 then some (.aload_n 0, 8, 0, []) else none
      else
       if pc = 8 then some (.getfield 203, 11, 11, [20, 0, 54]) else none
   else
    if pc < 15 then
     if pc < 12 then
      if pc = 11 then some (.aload_n 0, 12, 0, []) else none
     else
      if pc = 12 then some (.getfield 268, 15, 11, [43, 0, 54]) else none
    else
     if pc < 16 then
      if pc = 15 then some (.iadd, 16, 0, []) else none
     else
      if pc < 17 then
       if pc = 16 then some (.iconst 1, 17, 0, []) else none
      else
       if pc = 17 then some (.iadd, 18, 0, []) else none
  else
   if pc < 29 then
    if pc < 24 then
     if pc < 21 then
      if pc = 18 then some (.sipush 1500, 21, 0, []) else none
     else
      if pc = 21 then some (.if_icmp .le 9, 24, 30, []) else none
    else
     if pc < 25 then
      if pc = 24 then some (.aload_n 0, 25, 0, []) else none
     else
      if pc < 26 then
       if pc = 25 then some (.iconst 1, 26, 0, []) else none
      else
       if pc = 26 then some (.putfield 265, 29, 11, [40, 2, 54]) else none
   else
    if pc < 31 then
     if pc < 30 then
      if pc = 29 then some (.return_, 30, 0, []) else none
     else
      if pc = 30 then some (.iconst 0, 31, 0, []) else none
    else
     if pc < 33 then
      if pc = 31 then some (.istore_n 1, 100032, 1, []) else none
     else
      if pc < 34 then
       if pc = 33 then some (.aload_n 0, 34, 0, []) else none
      else
       if pc = 34 then some (.getfield 268, 37, 11, [43, 0, 54]) else none
 else
  if pc < 57 then
   if pc < 46 then
    if pc < 41 then
     if pc < 40 then
      if pc = 37 then some (.if_icmp .ge 19, 40, 56, []) else none
     else
      if pc = 40 then some (.aload_n 0, 41, 0, []) else none
    else
     if pc < 42 then
      if pc = 41 then some (.aload_n 0, 42, 0, []) else none
     else
      if pc < 45 then
       if pc = 42 then some (.getfield 90, 45, 11, [42, 1, 54]) else none
      else
       if pc = 45 then some (.iload_n 1, 46, 1, []) else none
   else
    if pc < 50 then
     if pc < 47 then
      if pc = 46 then some (.caload, 47, 0, []) else none
     else
      if pc = 47 then some (.invokevirtual 206, 50, 122, [2, 0, 0, 2, 12, 0, 0]) else none
    else
     if pc < 53 then
      if pc = 50 then some (.iinc 1 1, 53, 1, []) else none
     else
      if pc < 56 then
       if pc = 53 then some (.goto (-21), 56, 100032, []) else none
      else
       if pc = 56 then some (.aload_n 0, 57, 0, []) else none
  else
   if pc < 67 then
    if pc < 62 then
     if pc < 59 then
      if pc = 57 then some (.bipush 10, 59, 0, []) else none
     else
      if pc = 59 then some (.invokevirtual 206, 62, 122, [2, 0, 0, 2, 12, 0, 0]) else none
    else
     if pc < 63 then
      if pc = 62 then some (.aload_n 0, 63, 0, []) else none
     else
      if pc < 64 then
       if pc = 63 then some (.dup, 64, 0, []) else none
      else
       if pc = 64 then some (.getfield 271, 67, 11, [39, 0, 54]) else none
   else
    if pc < 69 then
     if pc < 68 then
      if pc = 67 then some (.iconst 1, 68, 0, []) else none
     else
      if pc = 68 then some (.iadd, 69, 0, []) else none
    else
     if pc < 72 then
      if pc = 69 then some (.putfield 271, 72, 11, [39, 0, 54]) else none
     else
      if pc < 100032 then
       if pc = 72 then some (.return_, 73, 0, []) else none
      else
       if pc = 100032 then some (.iload_n 1, 33, 1, []) else none

def mc_X11_test (pc : Nat) : Option mE :=
 if pc < 124 then
  if pc < 82 then
   if pc < 62 then
    if pc < 8 then
     if pc < 5 then
      if pc < 1 then
       if pc = 0 then some (.aload_n 0, 1, 0, []) else none
      else
       if pc < 4 then
        if pc = 1 then some (.getfield 72, 4, 11, [29, 1, 54]) else none
       else
        if pc = 4 then some (.iload_n 1, 5, 1, []) else none
     else
      if pc < 6 then
       if pc = 5 then some (.iaload, 6, 0, []) else none
      else
       if pc < 7 then
        if pc = 6 then some (.istore_n 3, 7, 3, []) else none
       else
        if pc = 7 then some (.aload_n 0, 8, 0, []) else none
    else
     if pc < 13 then
      if pc < 11 then
       if pc = 8 then some (.getfield 69, 11, 11, [28, 1, 54]) else none
      else
       if pc < 12 then
        if pc = 11 then some (.iload_n 1, 12, 1, []) else none
       else
        if pc = 12 then some (.iaload, 13, 0, []) else none
     else
      if pc < 60 then
       if pc = 13 then some (.tableswitch 184 0 7 #[47, 53, 109, 121, 138, 150, 171, 178], 60, 197, [60, 66, 122, 134, 151, 163, 184, 191]) else none
      else
       if pc < 61 then
        if pc = 60 then some (.aload_n 0, 61, 0, []) else none
       else
        if pc = 61 then some (.iload_n 3, 62, 3, []) else none
   else
    if pc < 72 then
     if pc < 67 then
      if pc < 65 then
       if pc = 62 then some (.invokevirtual 274, 65, 133, [2, 0, 0, 10, 12, 0, 0]) else none
      else
       if pc < 66 then
        if pc = 65 then some (.ireturn, 66, 2, []) else none
       else
        if pc = 66 then some (.aload_n 0, 67, 0, []) else none
     else
      if pc < 70 then
       if pc = 67 then some (.getfield 7, 70, 11, [1, 1, 54]) else none
      else
       if pc < 71 then
        if pc = 70 then some (.iload_n 2, 71, 2, []) else none
       else
        if pc = 71 then some (.iaload, 72, 0, []) else none
    else
     if pc < 77 then
      if pc < 73 then
       if pc = 72 then some (.aload_n 0, 73, 0, []) else none
      else
       if pc < 76 then
        if pc = 73 then some (.getfield 47, 76, 11, [14, 1, 54]) else none
       else
        if pc = 76 then some (.aload_n 0, 77, 0, []) else none
     else
      if pc < 80 then
       if pc = 77 then some (.getfield 50, 80, 11, [17, 1, 54]) else none
      else
       if pc < 81 then
        if pc = 80 then some (.iload_n 3, 81, 3, []) else none
       else
        if pc = 81 then some (.iaload, 82, 0, []) else none
  else
   if pc < 103 then
    if pc < 93 then
     if pc < 88 then
      if pc < 83 then
       if pc = 82 then some (.caload, 83, 0, []) else none
      else
       if pc < 85 then
        if pc = 83 then some (.bipush 100, 85, 0, []) else none
       else
        if pc = 85 then some (.if_icmp .ne 7, 88, 92, []) else none
     else
      if pc < 89 then
       if pc = 88 then some (.iconst 0, 89, 0, []) else none
      else
       if pc < 92 then
        if pc = 89 then some (.goto 24, 92, 113, []) else none
       else
        if pc = 92 then some (.aload_n 0, 93, 0, []) else none
    else
     if pc < 100 then
      if pc < 96 then
       if pc = 93 then some (.getfield 47, 96, 11, [14, 1, 54]) else none
      else
       if pc < 97 then
        if pc = 96 then some (.aload_n 0, 97, 0, []) else none
       else
        if pc = 97 then some (.getfield 50, 100, 11, [17, 1, 54]) else none
     else
      if pc < 101 then
       if pc = 100 then some (.iload_n 3, 101, 3, []) else none
      else
       if pc < 102 then
        if pc = 101 then some (.iaload, 102, 0, []) else none
       else
        if pc = 102 then some (.caload, 103, 0, []) else none
   else
    if pc < 116 then
     if pc < 109 then
      if pc < 105 then
       if pc = 103 then some (.bipush 102, 105, 0, []) else none
      else
       if pc < 108 then
        if pc = 105 then some (.if_icmp .ne 7, 108, 112, []) else none
       else
        if pc = 108 then some (.iconst 1, 109, 0, []) else none
     else
      if pc < 112 then
       if pc = 109 then some (.goto 4, 112, 113, []) else none
      else
       if pc < 113 then
        if pc = 112 then some (.iconst 2, 113, 0, []) else none
       else
        if pc = 113 then some (.if_icmp .ne 7, 116, 120, []) else none
    else
     if pc < 121 then
      if pc < 117 then
       if pc = 116 then some (.iconst 1, 117, 0, []) else none
      else
       if pc < 120 then
        if pc = 117 then some (.goto 4, 120, 121, []) else none
       else
        if pc = 120 then some (.iconst 0, 121, 0, []) else none
     else
      if pc < 122 then
       if pc = 121 then some (.ireturn, 122, 2, []) else none
      else
       if pc < 123 then
        if pc = 122 then some (.aload_n 0, 123, 0, []) else none
       else
        if pc = 123 then some (.aload_n 0, 124, 0, []) else none
 else
  if pc < 162 then
   if pc < 144 then
    if pc < 134 then
     if pc < 129 then
      if pc < 127 then
       if pc = 124 then some (.getfield 13, 127, 11, [2, 1, 54]) else none
      else
       if pc < 128 then
        if pc = 127 then some (.iload_n 2, 128, 2, []) else none
       else
        if pc = 128 then some (.iaload, 129, 0, []) else none
     else
      if pc < 130 then
       if pc = 129 then some (.iload_n 3, 130, 3, []) else none
      else
       if pc < 133 then
        if pc = 130 then some (.invokevirtual 277, 133, 134, [3, 0, 0, 7, 12, 0, 0]) else none
       else
        if pc = 133 then some (.ireturn, 134, 2, []) else none
    else
     if pc < 139 then
      if pc < 135 then
       if pc = 134 then some (.aload_n 0, 135, 0, []) else none
      else
       if pc < 136 then
        if pc = 135 then some (.aload_n 0, 136, 0, []) else none
       else
        if pc = 136 then some (.getfield 280, 139, 11, [38, 0, 54]) else none
     else
      if pc < 140 then
       if pc = 139 then some (.aload_n 0, 140, 0, []) else none
      else
       if pc < 143 then
        if pc = 140 then some (.getfield 16, 143, 11, [3, 1, 54]) else none
       else
        if pc = 143 then some (.iload_n 2, 144, 2, []) else none
   else
    if pc < 152 then
     if pc < 147 then
      if pc < 145 then
       if pc = 144 then some (.iaload, 145, 0, []) else none
      else
       if pc < 146 then
        if pc = 145 then some (.isub, 146, 0, []) else none
       else
        if pc = 146 then some (.iload_n 3, 147, 3, []) else none
     else
      if pc < 150 then
       if pc = 147 then some (.invokevirtual 277, 150, 134, [3, 0, 0, 7, 12, 0, 0]) else none
      else
       if pc < 151 then
        if pc = 150 then some (.ireturn, 151, 2, []) else none
       else
        if pc = 151 then some (.aload_n 0, 152, 0, []) else none
    else
     if pc < 157 then
      if pc < 153 then
       if pc = 152 then some (.aload_n 0, 153, 0, []) else none
      else
       if pc < 156 then
        if pc = 153 then some (.getfield 19, 156, 11, [4, 1, 54]) else none
       else
        if pc = 156 then some (.iload_n 2, 157, 2, []) else none
     else
      if pc < 158 then
       if pc = 157 then some (.iaload, 158, 0, []) else none
      else
       if pc < 159 then
        if pc = 158 then some (.iload_n 3, 159, 3, []) else none
       else
        if pc = 159 then some (.invokevirtual 277, 162, 134, [3, 0, 0, 7, 12, 0, 0]) else none
  else
   if pc < 182 then
    if pc < 170 then
     if pc < 167 then
      if pc < 163 then
       if pc = 162 then some (.ireturn, 163, 2, []) else none
      else
       if pc < 164 then
        if pc = 163 then some (.aload_n 0, 164, 0, []) else none
       else
        if pc = 164 then some (.getfield 16, 167, 11, [3, 1, 54]) else none
     else
      if pc < 168 then
       if pc = 167 then some (.iload_n 2, 168, 2, []) else none
      else
       if pc < 169 then
        if pc = 168 then some (.iaload, 169, 0, []) else none
       else
        if pc = 169 then some (.aload_n 0, 170, 0, []) else none
    else
     if pc < 175 then
      if pc < 173 then
       if pc = 170 then some (.getfield 78, 173, 11, [31, 1, 54]) else none
      else
       if pc < 174 then
        if pc = 173 then some (.iload_n 1, 174, 1, []) else none
       else
        if pc = 174 then some (.iaload, 175, 0, []) else none
     else
      if pc < 178 then
       if pc = 175 then some (.if_icmp .le 7, 178, 182, []) else none
      else
       if pc < 179 then
        if pc = 178 then some (.iconst 1, 179, 0, []) else none
       else
        if pc = 179 then some (.goto 4, 182, 183, []) else none
   else
    if pc < 190 then
     if pc < 185 then
      if pc < 183 then
       if pc = 182 then some (.iconst 0, 183, 0, []) else none
      else
       if pc < 184 then
        if pc = 183 then some (.ireturn, 184, 2, []) else none
       else
        if pc = 184 then some (.aload_n 0, 185, 0, []) else none
     else
      if pc < 186 then
       if pc = 185 then some (.iconst 1, 186, 0, []) else none
      else
       if pc < 189 then
        if pc = 186 then some (.putfield 283, 189, 11, [41, 2, 54]) else none
       else
        if pc = 189 then some (.iconst 1, 190, 0, []) else none
    else
     if pc < 195 then
      if pc < 191 then
       if pc = 190 then some (.ireturn, 191, 2, []) else none
      else
       if pc < 192 then
        if pc = 191 then some (.aload_n 0, 192, 0, []) else none
       else
        if pc = 192 then some (.invokevirtual 286, 195, 135, [1, 0, 0, 2, 12, 0, 0]) else none
     else
      if pc < 197 then
       if pc < 196 then
        if pc = 195 then some (.iconst 1, 196, 0, []) else none
       else
        if pc = 196 then some (.ireturn, 197, 2, []) else none
      else
       if pc < 198 then
        if pc = 197 then some (.iconst 1, 198, 0, []) else none
       else
        if pc = 198 then some (.ireturn, 199, 2, []) else none

def mc_X11_ask (pc : Nat) : Option mE :=
 if pc < 92 then
  if pc < 46 then
   if pc < 22 then
    if pc < 11 then
     if pc < 5 then
      if pc < 1 then
       if pc = 0 then some (.aload_n 0, 1, 0, []) else none
      else
       if pc < 2 then
        if pc = 1 then some (.iconst 0, 2, 0, []) else none
       else
        if pc = 2 then some (.putfield 283, 5, 11, [41, 2, 54]) else none
     else
      if pc < 7 then
       if pc < 6 then
        if pc = 5 then some (.iconst 1, 6, 0, []) else none
       else
        if pc = 6 then some (.istore_n 2, 7, 2, []) else none
      else
       if pc < 8 then
        if pc = 7 then some (.aload_n 0, 8, 0, []) else none
       else
        if pc = 8 then some (.getfield 81, 11, 11, [32, 1, 54]) else none
    else
     if pc < 16 then
      if pc < 12 then
       if pc = 11 then some (.iconst 0, 12, 0, []) else none
      else
       if pc < 13 then
        if pc = 12 then some (.aload_n 0, 13, 0, []) else none
       else
        if pc = 13 then some (.getfield 228, 16, 11, [35, 0, 54]) else none
     else
      if pc < 18 then
       if pc < 17 then
        if pc = 16 then some (.iastore, 17, 0, []) else none
       else
        if pc = 17 then some (.aload_n 0, 18, 0, []) else none
      else
       if pc < 21 then
        if pc = 18 then some (.getfield 87, 21, 11, [34, 1, 54]) else none
       else
        if pc = 21 then some (.iconst 0, 22, 0, []) else none
   else
    if pc < 34 then
     if pc < 25 then
      if pc < 23 then
       if pc = 22 then some (.iconst 0, 23, 0, []) else none
      else
       if pc < 24 then
        if pc = 23 then some (.iastore, 24, 0, []) else none
       else
        if pc = 24 then some (.iconst 0, 25, 0, []) else none
     else
      if pc < 30 then
       if pc < 27 then
        if pc = 25 then some (.istore_n 3, 100026, 3, []) else none
       else
        if pc = 27 then some (.ifCond .le 165, 30, 192, []) else none
      else
       if pc < 31 then
        if pc = 30 then some (.aload_n 0, 31, 0, []) else none
       else
        if pc = 31 then some (.getfield 81, 34, 11, [32, 1, 54]) else none
    else
     if pc < 38 then
      if pc < 36 then
       if pc < 35 then
        if pc = 34 then some (.iload_n 2, 35, 2, []) else none
       else
        if pc = 35 then some (.iconst 1, 36, 0, []) else none
      else
       if pc < 37 then
        if pc = 36 then some (.isub, 37, 0, []) else none
       else
        if pc = 37 then some (.iaload, 38, 0, []) else none
     else
      if pc < 41 then
       if pc < 40 then
        if pc = 38 then some (.istore 4, 40, 4, []) else none
       else
        if pc = 40 then some (.aload_n 0, 41, 0, []) else none
      else
       if pc < 44 then
        if pc = 41 then some (.getfield 69, 44, 11, [28, 1, 54]) else none
       else
        if pc = 44 then some (.iload 4, 46, 4, []) else none
  else
   if pc < 67 then
    if pc < 56 then
     if pc < 50 then
      if pc < 47 then
       if pc = 46 then some (.iaload, 47, 0, []) else none
      else
       if pc < 49 then
        if pc = 47 then some (.istore 5, 49, 5, []) else none
       else
        if pc = 49 then some (.aload_n 0, 50, 0, []) else none
     else
      if pc < 54 then
       if pc < 53 then
        if pc = 50 then some (.getfield 87, 53, 11, [34, 1, 54]) else none
       else
        if pc = 53 then some (.iload_n 2, 54, 2, []) else none
      else
       if pc < 55 then
        if pc = 54 then some (.iconst 1, 55, 0, []) else none
       else
        if pc = 55 then some (.isub, 56, 0, []) else none
    else
     if pc < 63 then
      if pc < 59 then
       if pc < 57 then
        if pc = 56 then some (.iaload, 57, 0, []) else none
       else
        if pc = 57 then some (.istore 6, 59, 6, []) else none
      else
       if pc < 60 then
        if pc = 59 then some (.aload_n 0, 60, 0, []) else none
       else
        if pc = 60 then some (.getfield 87, 63, 11, [34, 1, 54]) else none
     else
      if pc < 65 then
       if pc < 64 then
        if pc = 63 then some (.iload_n 2, 64, 2, []) else none
       else
        if pc = 64 then some (.iconst 1, 65, 0, []) else none
      else
       if pc < 66 then
        if pc = 65 then some (.isub, 66, 0, []) else none
       else
        if pc = 66 then some (.dup2, 67, 0, []) else none
   else
    if pc < 76 then
     if pc < 70 then
      if pc < 68 then
       if pc = 67 then some (.iaload, 68, 0, []) else none
      else
       if pc < 69 then
        if pc = 68 then some (.iconst 1, 69, 0, []) else none
       else
        if pc = 69 then some (.iadd, 70, 0, []) else none
     else
      if pc < 72 then
       if pc < 71 then
        if pc = 70 then some (.iastore, 71, 0, []) else none
       else
        if pc = 71 then some (.iconst (-1), 72, 0, []) else none
      else
       if pc < 74 then
        if pc = 72 then some (.istore 7, 74, 7, []) else none
       else
        if pc = 74 then some (.iload 5, 76, 5, []) else none
    else
     if pc < 84 then
      if pc < 81 then
       if pc < 78 then
        if pc = 76 then some (.bipush 9, 78, 0, []) else none
       else
        if pc = 78 then some (.if_icmp .ge 14, 81, 92, []) else none
      else
       if pc < 82 then
        if pc = 81 then some (.aload_n 0, 82, 0, []) else none
       else
        if pc = 82 then some (.iload 4, 84, 4, []) else none
     else
      if pc < 88 then
       if pc < 85 then
        if pc = 84 then some (.iload_n 1, 85, 1, []) else none
       else
        if pc = 85 then some (.invokevirtual 289, 88, 136, [3, 0, 0, 4, 12, 0, 0]) else none
      else
       if pc < 89 then
        if pc = 88 then some (.istore_n 3, 89, 3, []) else none
       else
        if pc = 89 then some (.goto 71, 92, 160, []) else none
 else
  if pc < 151 then
   if pc < 121 then
    if pc < 106 then
     if pc < 98 then
      if pc < 94 then
       if pc = 92 then some (.iload 6, 94, 6, []) else none
      else
       if pc < 97 then
        if pc = 94 then some (.ifCond .ne 15, 97, 109, []) else none
       else
        if pc = 97 then some (.aload_n 0, 98, 0, []) else none
     else
      if pc < 103 then
       if pc < 101 then
        if pc = 98 then some (.getfield 72, 101, 11, [29, 1, 54]) else none
       else
        if pc = 101 then some (.iload 4, 103, 4, []) else none
      else
       if pc < 104 then
        if pc = 103 then some (.iaload, 104, 0, []) else none
       else
        if pc = 104 then some (.istore 7, 106, 7, []) else none
    else
     if pc < 113 then
      if pc < 109 then
       if pc = 106 then some (.goto 54, 109, 160, []) else none
      else
       if pc < 111 then
        if pc = 109 then some (.iload 5, 111, 5, []) else none
       else
        if pc = 111 then some (.bipush 9, 113, 0, []) else none
     else
      if pc < 117 then
       if pc < 116 then
        if pc = 113 then some (.if_icmp .ne 16, 116, 129, []) else none
       else
        if pc = 116 then some (.iload_n 3, 117, 3, []) else none
      else
       if pc < 120 then
        if pc = 117 then some (.ifCond .ne 7, 120, 124, []) else none
       else
        if pc = 120 then some (.iconst 1, 121, 0, []) else none
   else
    if pc < 135 then
     if pc < 126 then
      if pc < 124 then
       if pc = 121 then some (.goto 4, 124, 125, []) else none
      else
       if pc < 125 then
        if pc = 124 then some (.iconst 0, 125, 0, []) else none
       else
        if pc = 125 then some (.istore_n 3, 126, 3, []) else none
     else
      if pc < 131 then
       if pc < 129 then
        if pc = 126 then some (.goto 34, 129, 160, []) else none
       else
        if pc = 129 then some (.iload 6, 131, 6, []) else none
      else
       if pc < 132 then
        if pc = 131 then some (.iconst 1, 132, 0, []) else none
       else
        if pc = 132 then some (.if_icmp .ne 28, 135, 160, []) else none
    else
     if pc < 143 then
      if pc < 138 then
       if pc < 136 then
        if pc = 135 then some (.iload_n 3, 136, 3, []) else none
       else
        if pc = 136 then some (.iload 5, 138, 5, []) else none
      else
       if pc < 140 then
        if pc = 138 then some (.bipush 10, 140, 0, []) else none
       else
        if pc = 140 then some (.if_icmp .ne 7, 143, 147, []) else none
     else
      if pc < 147 then
       if pc < 144 then
        if pc = 143 then some (.iconst 1, 144, 0, []) else none
       else
        if pc = 144 then some (.goto 4, 147, 148, []) else none
      else
       if pc < 148 then
        if pc = 147 then some (.iconst 0, 148, 0, []) else none
       else
        if pc = 148 then some (.if_icmp .ne 12, 151, 160, []) else none
  else
   if pc < 178 then
    if pc < 165 then
     if pc < 157 then
      if pc < 152 then
       if pc = 151 then some (.aload_n 0, 152, 0, []) else none
      else
       if pc < 155 then
        if pc = 152 then some (.getfield 75, 155, 11, [30, 1, 54]) else none
       else
        if pc = 155 then some (.iload 4, 157, 4, []) else none
     else
      if pc < 160 then
       if pc < 158 then
        if pc = 157 then some (.iaload, 158, 0, []) else none
       else
        if pc = 158 then some (.istore 7, 160, 7, []) else none
      else
       if pc < 162 then
        if pc = 160 then some (.iload 7, 162, 7, []) else none
       else
        if pc = 162 then some (.ifCond .lt 24, 165, 186, []) else none
    else
     if pc < 172 then
      if pc < 169 then
       if pc < 166 then
        if pc = 165 then some (.aload_n 0, 166, 0, []) else none
       else
        if pc = 166 then some (.getfield 81, 169, 11, [32, 1, 54]) else none
      else
       if pc < 170 then
        if pc = 169 then some (.iload_n 2, 170, 2, []) else none
       else
        if pc = 170 then some (.iload 7, 172, 7, []) else none
     else
      if pc < 174 then
       if pc < 173 then
        if pc = 172 then some (.iastore, 173, 0, []) else none
       else
        if pc = 173 then some (.aload_n 0, 174, 0, []) else none
      else
       if pc < 177 then
        if pc = 174 then some (.getfield 87, 177, 11, [34, 1, 54]) else none
       else
        if pc = 177 then some (.iload_n 2, 178, 2, []) else none
   else
    if pc < 193 then
     if pc < 183 then
      if pc < 179 then
       if pc = 178 then some (.iconst 0, 179, 0, []) else none
      else
       if pc < 180 then
        if pc = 179 then some (.iastore, 180, 0, []) else none
       else
        if pc = 180 then some (.iinc 2 1, 183, 2, []) else none
     else
      if pc < 189 then
       if pc < 186 then
        if pc = 183 then some (.goto 6, 186, 189, []) else none
       else
        if pc = 186 then some (.iinc 2 (-1), 189, 2, []) else none
      else
       if pc < 192 then
        if pc = 189 then some (.goto (-163), 192, 100026, []) else none
       else
        if pc = 192 then some (.iload_n 3, 193, 3, []) else none
    else
     if pc < 203 then
      if pc < 197 then
       if pc < 196 then
        if pc = 193 then some (.ifCond .eq 14, 196, 207, []) else none
       else
        if pc = 196 then some (.aload_n 0, 197, 0, []) else none
      else
       if pc < 200 then
        if pc = 197 then some (.getfield 217, 200, 11, [36, 0, 54]) else none
       else
        if pc = 200 then some (.ifCond .ne 7, 203, 207, []) else none
     else
      if pc < 207 then
       if pc < 204 then
        if pc = 203 then some (.aload_n 0, 204, 0, []) else none
       else
        if pc = 204 then some (.invokevirtual 286, 207, 135, [1, 0, 0, 2, 12, 0, 0]) else none
      else
       if pc < 100026 then
        if pc = 207 then some (.return_, 208, 0, []) else none
       else
        if pc = 100026 then some (.iload_n 2, 27, 2, []) else none

def mc_X11_nextName (pc : Nat) : Option mE :=
 if pc < 56 then
  if pc < 28 then
   if pc < 13 then
    if pc < 5 then
     if pc < 2 then
      if pc < 1 then
       if pc = 0 then some (.iconst (-1), 1, 0, []) else none
      else
       if pc = 1 then some (.istore_n 3, 2, 3, []) else none
     else
      if pc < 4 then
       if pc = 2 then some (.bipush 12, 4, 0, []) else none
      else
       if pc = 4 then some (.iload_n 1, 5, 1, []) else none
    else
     if pc < 10 then
      if pc < 6 then
       if pc = 5 then some (.imul, 6, 0, []) else none
      else
       if pc = 6 then some (.istore 4, 100008, 4, []) else none
     else
      if pc < 12 then
       if pc = 10 then some (.bipush 12, 12, 0, []) else none
      else
       if pc = 12 then some (.iload_n 1, 13, 1, []) else none
   else
    if pc < 19 then
     if pc < 15 then
      if pc < 14 then
       if pc = 13 then some (.imul, 14, 0, []) else none
      else
       if pc = 14 then some (.aload_n 0, 15, 0, []) else none
     else
      if pc < 18 then
       if pc = 15 then some (.getfield 35, 18, 11, [9, 1, 54]) else none
      else
       if pc = 18 then some (.iload_n 1, 19, 1, []) else none
    else
     if pc < 21 then
      if pc < 20 then
       if pc = 19 then some (.iaload, 20, 0, []) else none
      else
       if pc = 20 then some (.iadd, 21, 0, []) else none
     else
      if pc < 24 then
       if pc = 21 then some (.if_icmp .ge 92, 24, 113, []) else none
      else
       if pc < 25 then
        if pc = 24 then some (.iload_n 2, 25, 2, []) else none
       else
        if pc = 25 then some (.ifCond .lt 31, 28, 56, []) else none
  else
   if pc < 41 then
    if pc < 35 then
     if pc < 31 then
      if pc < 29 then
       if pc = 28 then some (.aload_n 0, 29, 0, []) else none
      else
       if pc = 29 then some (.iload 4, 31, 4, []) else none
     else
      if pc < 32 then
       if pc = 31 then some (.aload_n 0, 32, 0, []) else none
      else
       if pc = 32 then some (.getfield 44, 35, 11, [12, 1, 54]) else none
    else
     if pc < 38 then
      if pc < 37 then
       if pc = 35 then some (.bipush 14, 37, 0, []) else none
      else
       if pc = 37 then some (.iload_n 2, 38, 2, []) else none
     else
      if pc < 39 then
       if pc = 38 then some (.imul, 39, 0, []) else none
      else
       if pc = 39 then some (.bipush 14, 41, 0, []) else none
   else
    if pc < 47 then
     if pc < 43 then
      if pc < 42 then
       if pc = 41 then some (.iload_n 2, 42, 2, []) else none
      else
       if pc = 42 then some (.imul, 43, 0, []) else none
     else
      if pc < 44 then
       if pc = 43 then some (.aload_n 0, 44, 0, []) else none
      else
       if pc = 44 then some (.getfield 41, 47, 11, [11, 1, 54]) else none
    else
     if pc < 49 then
      if pc < 48 then
       if pc = 47 then some (.iload_n 2, 48, 2, []) else none
      else
       if pc = 48 then some (.iaload, 49, 0, []) else none
     else
      if pc < 50 then
       if pc = 49 then some (.iadd, 50, 0, []) else none
      else
       if pc < 53 then
        if pc = 50 then some (.invokevirtual 134, 53, 101, [5, 0, 0, 9, 12, 0, 0]) else none
       else
        if pc = 53 then some (.ifCond .le 7, 56, 60, []) else none
 else
  if pc < 86 then
   if pc < 72 then
    if pc < 63 then
     if pc < 60 then
      if pc < 57 then
       if pc = 56 then some (.iconst 1, 57, 0, []) else none
      else
       if pc = 57 then some (.goto 4, 60, 61, []) else none
     else
      if pc < 61 then
       if pc = 60 then some (.iconst 0, 61, 0, []) else none
      else
       if pc = 61 then some (.istore 5, 63, 5, []) else none
    else
     if pc < 68 then
      if pc < 65 then
       if pc = 63 then some (.iload 5, 65, 5, []) else none
      else
       if pc = 65 then some (.ifCond .eq 40, 68, 105, []) else none
     else
      if pc < 69 then
       if pc = 68 then some (.iload_n 3, 69, 3, []) else none
      else
       if pc = 69 then some (.ifCond .lt 31, 72, 100, []) else none
   else
    if pc < 79 then
     if pc < 75 then
      if pc < 73 then
       if pc = 72 then some (.aload_n 0, 73, 0, []) else none
      else
       if pc = 73 then some (.iload 4, 75, 4, []) else none
     else
      if pc < 76 then
       if pc = 75 then some (.aload_n 0, 76, 0, []) else none
      else
       if pc = 76 then some (.getfield 44, 79, 11, [12, 1, 54]) else none
    else
     if pc < 82 then
      if pc < 81 then
       if pc = 79 then some (.bipush 14, 81, 0, []) else none
      else
       if pc = 81 then some (.iload_n 3, 82, 3, []) else none
     else
      if pc < 83 then
       if pc = 82 then some (.imul, 83, 0, []) else none
      else
       if pc < 85 then
        if pc = 83 then some (.bipush 14, 85, 0, []) else none
       else
        if pc = 85 then some (.iload_n 3, 86, 3, []) else none
  else
   if pc < 100 then
    if pc < 92 then
     if pc < 88 then
      if pc < 87 then
       if pc = 86 then some (.imul, 87, 0, []) else none
      else
       if pc = 87 then some (.aload_n 0, 88, 0, []) else none
     else
      if pc < 91 then
       if pc = 88 then some (.getfield 41, 91, 11, [11, 1, 54]) else none
      else
       if pc = 91 then some (.iload_n 3, 92, 3, []) else none
    else
     if pc < 94 then
      if pc < 93 then
       if pc = 92 then some (.iaload, 93, 0, []) else none
      else
       if pc = 93 then some (.iadd, 94, 0, []) else none
     else
      if pc < 97 then
       if pc = 94 then some (.invokevirtual 134, 97, 101, [5, 0, 0, 9, 12, 0, 0]) else none
      else
       if pc = 97 then some (.ifCond .ge 8, 100, 105, []) else none
   else
    if pc < 107 then
     if pc < 105 then
      if pc < 102 then
       if pc = 100 then some (.iload 4, 102, 4, []) else none
      else
       if pc = 102 then some (.goto 4, 105, 106, []) else none
     else
      if pc < 106 then
       if pc = 105 then some (.iload_n 3, 106, 3, []) else none
      else
       if pc = 106 then some (.istore_n 3, 107, 3, []) else none
    else
     if pc < 113 then
      if pc < 110 then
       if pc = 107 then some (.iinc 4 1, 110, 4, []) else none
      else
       if pc = 110 then some (.goto (-102), 113, 100008, []) else none
     else
      if pc < 114 then
       if pc = 113 then some (.iload_n 3, 114, 3, []) else none
      else
       if pc < 100008 then
        if pc = 114 then some (.ireturn, 115, 0, []) else none
       else
        if pc = 100008 then some (.iload 4, 10, 4, []) else none

def mc_X11_goThrough (pc : Nat) : Option mE :=
 if pc < 171 then
  if pc < 79 then
   if pc < 35 then
    if pc < 15 then
     if pc < 7 then
      if pc < 2 then
       if pc < 1 then
        if pc = 0 then some (.iconst 0, 1, 0, []) else none
       else
        if pc = 1 then some (.istore_n 2, 2, 2, []) else none
      else
       if pc < 3 then
        if pc = 2 then some (.aload_n 0, 3, 0, []) else none
       else
        if pc < 6 then
         if pc = 3 then some (.getfield 93, 6, 11, [46, 1, 54]) else none
        else
         if pc = 6 then some (.iconst 0, 7, 0, []) else none
     else
      if pc < 10 then
       if pc < 8 then
        if pc = 7 then some (.iload_n 1, 8, 1, []) else none
       else
        if pc < 9 then
         if pc = 8 then some (.iastore, 9, 0, []) else none
        else
         if pc = 9 then some (.aload_n 0, 10, 0, []) else none
      else
       if pc < 13 then
        if pc = 10 then some (.getfield 96, 13, 11, [47, 1, 54]) else none
       else
        if pc < 14 then
         if pc = 13 then some (.iconst 0, 14, 0, []) else none
        else
         if pc = 14 then some (.iconst (-1), 15, 0, []) else none
    else
     if pc < 25 then
      if pc < 20 then
       if pc < 16 then
        if pc = 15 then some (.iastore, 16, 0, []) else none
       else
        if pc < 17 then
         if pc = 16 then some (.aload_n 0, 17, 0, []) else none
        else
         if pc = 17 then some (.getfield 99, 20, 11, [48, 1, 54]) else none
      else
       if pc < 21 then
        if pc = 20 then some (.iconst 0, 21, 0, []) else none
       else
        if pc < 22 then
         if pc = 21 then some (.aload_n 0, 22, 0, []) else none
        else
         if pc = 22 then some (.getfield 268, 25, 11, [43, 0, 54]) else none
     else
      if pc < 30 then
       if pc < 26 then
        if pc = 25 then some (.iastore, 26, 0, []) else none
       else
        if pc < 27 then
         if pc = 26 then some (.aload_n 0, 27, 0, []) else none
        else
         if pc = 27 then some (.getfield 102, 30, 11, [49, 1, 54]) else none
      else
       if pc < 31 then
        if pc = 30 then some (.iconst 0, 31, 0, []) else none
       else
        if pc < 32 then
         if pc = 31 then some (.aload_n 0, 32, 0, []) else none
        else
         if pc = 32 then some (.getfield 255, 35, 11, [44, 0, 54]) else none
   else
    if pc < 58 then
     if pc < 46 then
      if pc < 38 then
       if pc < 36 then
        if pc = 35 then some (.iastore, 36, 0, []) else none
       else
        if pc < 37 then
         if pc = 36 then some (.aload_n 0, 37, 0, []) else none
        else
         if pc = 37 then some (.iload_n 1, 38, 1, []) else none
      else
       if pc < 41 then
        if pc = 38 then some (.invokevirtual 292, 41, 140, [2, 0, 0, 3, 12, 0, 0]) else none
       else
        if pc < 43 then
         if pc = 41 then some (.istore_n 3, 100042, 3, []) else none
        else
         if pc = 43 then some (.ifCond .ne 7, 46, 50, []) else none
     else
      if pc < 51 then
       if pc < 47 then
        if pc = 46 then some (.iload_n 2, 47, 2, []) else none
       else
        if pc < 50 then
         if pc = 47 then some (.ifCond .le 289, 50, 336, []) else none
        else
         if pc = 50 then some (.iload_n 3, 51, 3, []) else none
      else
       if pc < 54 then
        if pc = 51 then some (.ifCond .ne 6, 54, 57, []) else none
       else
        if pc < 57 then
         if pc = 54 then some (.iinc 2 (-1), 57, 2, []) else none
        else
         if pc = 57 then some (.aload_n 0, 58, 0, []) else none
    else
     if pc < 67 then
      if pc < 63 then
       if pc < 61 then
        if pc = 58 then some (.getfield 93, 61, 11, [46, 1, 54]) else none
       else
        if pc < 62 then
         if pc = 61 then some (.iload_n 2, 62, 2, []) else none
        else
         if pc = 62 then some (.iaload, 63, 0, []) else none
      else
       if pc < 65 then
        if pc = 63 then some (.istore 4, 65, 4, []) else none
       else
        if pc < 66 then
         if pc = 65 then some (.aload_n 0, 66, 0, []) else none
        else
         if pc = 66 then some (.aload_n 0, 67, 0, []) else none
     else
      if pc < 72 then
       if pc < 70 then
        if pc = 67 then some (.getfield 99, 70, 11, [48, 1, 54]) else none
       else
        if pc < 71 then
         if pc = 70 then some (.iload_n 2, 71, 2, []) else none
        else
         if pc = 71 then some (.iaload, 72, 0, []) else none
      else
       if pc < 75 then
        if pc = 72 then some (.putfield 268, 75, 11, [43, 0, 54]) else none
       else
        if pc < 76 then
         if pc = 75 then some (.aload_n 0, 76, 0, []) else none
        else
         if pc = 76 then some (.getfield 265, 79, 11, [40, 0, 54]) else none
  else
   if pc < 125 then
    if pc < 100 then
     if pc < 89 then
      if pc < 83 then
       if pc < 82 then
        if pc = 79 then some (.ifCond .eq 7, 82, 86, []) else none
       else
        if pc = 82 then some (.iconst (-1), 83, 0, []) else none
      else
       if pc < 86 then
        if pc = 83 then some (.goto 15, 86, 98, []) else none
       else
        if pc < 87 then
         if pc = 86 then some (.aload_n 0, 87, 0, []) else none
        else
         if pc = 87 then some (.iload 4, 89, 4, []) else none
     else
      if pc < 94 then
       if pc < 90 then
        if pc = 89 then some (.aload_n 0, 90, 0, []) else none
       else
        if pc < 93 then
         if pc = 90 then some (.getfield 96, 93, 11, [47, 1, 54]) else none
        else
         if pc = 93 then some (.iload_n 2, 94, 2, []) else none
      else
       if pc < 95 then
        if pc = 94 then some (.iaload, 95, 0, []) else none
       else
        if pc < 98 then
         if pc = 95 then some (.invokevirtual 295, 98, 138, [3, 0, 0, 6, 12, 0, 0]) else none
        else
         if pc = 98 then some (.istore 5, 100, 5, []) else none
    else
     if pc < 113 then
      if pc < 106 then
       if pc < 102 then
        if pc = 100 then some (.iload 5, 102, 5, []) else none
       else
        if pc < 105 then
         if pc = 102 then some (.ifCond .ge 62, 105, 164, []) else none
        else
         if pc = 105 then some (.aload_n 0, 106, 0, []) else none
      else
       if pc < 109 then
        if pc = 106 then some (.getfield 221, 109, 11, [37, 0, 54]) else none
       else
        if pc < 112 then
         if pc = 109 then some (.ifCond .eq 45, 112, 154, []) else none
        else
         if pc = 112 then some (.aload_n 0, 113, 0, []) else none
     else
      if pc < 120 then
       if pc < 116 then
        if pc = 113 then some (.getfield 265, 116, 11, [40, 0, 54]) else none
       else
        if pc < 119 then
         if pc = 116 then some (.ifCond .ne 38, 119, 154, []) else none
        else
         if pc = 119 then some (.aload_n 0, 120, 0, []) else none
      else
       if pc < 121 then
        if pc = 120 then some (.aload_n 0, 121, 0, []) else none
       else
        if pc < 124 then
         if pc = 121 then some (.getfield 102, 124, 11, [49, 1, 54]) else none
        else
         if pc = 124 then some (.iload_n 2, 125, 2, []) else none
   else
    if pc < 149 then
     if pc < 135 then
      if pc < 130 then
       if pc < 126 then
        if pc = 125 then some (.iaload, 126, 0, []) else none
       else
        if pc < 129 then
         if pc = 126 then some (.putfield 255, 129, 11, [44, 0, 54]) else none
        else
         if pc = 129 then some (.aload_n 0, 130, 0, []) else none
      else
       if pc < 131 then
        if pc = 130 then some (.iload_n 2, 131, 2, []) else none
       else
        if pc < 134 then
         if pc = 131 then some (.ifCond .ne 10, 134, 141, []) else none
        else
         if pc = 134 then some (.aload_n 0, 135, 0, []) else none
     else
      if pc < 142 then
       if pc < 138 then
        if pc = 135 then some (.getfield 298, 138, 11, [53, 0, 54]) else none
       else
        if pc < 141 then
         if pc = 138 then some (.goto 7, 141, 145, []) else none
        else
         if pc = 141 then some (.aload_n 0, 142, 0, []) else none
      else
       if pc < 145 then
        if pc = 142 then some (.getfield 268, 145, 11, [43, 0, 54]) else none
       else
        if pc < 148 then
         if pc = 145 then some (.putfield 252, 148, 11, [45, 0, 54]) else none
        else
         if pc = 148 then some (.aload_n 0, 149, 0, []) else none
    else
     if pc < 160 then
      if pc < 155 then
       if pc < 151 then
        if pc = 149 then some (.iload 4, 151, 4, []) else none
       else
        if pc < 154 then
         if pc = 151 then some (.invokevirtual 301, 154, 137, [2, 0, 0, 8, 12, 0, 0]) else none
        else
         if pc = 154 then some (.iload_n 2, 155, 2, []) else none
      else
       if pc < 158 then
        if pc = 155 then some (.ifCond .ne 4, 158, 159, []) else none
       else
        if pc < 159 then
         if pc = 158 then some (.return_, 159, 0, []) else none
        else
         if pc = 159 then some (.iconst 0, 160, 0, []) else none
     else
      if pc < 165 then
       if pc < 161 then
        if pc = 160 then some (.istore_n 3, 161, 3, []) else none
       else
        if pc < 164 then
         if pc = 161 then some (.goto 172, 164, 333, []) else none
        else
         if pc = 164 then some (.aload_n 0, 165, 0, []) else none
      else
       if pc < 168 then
        if pc = 165 then some (.getfield 96, 168, 11, [47, 1, 54]) else none
       else
        if pc < 169 then
         if pc = 168 then some (.iload_n 2, 169, 2, []) else none
        else
         if pc = 169 then some (.iload 5, 171, 5, []) else none
 else
  if pc < 255 then
   if pc < 210 then
    if pc < 189 then
     if pc < 180 then
      if pc < 173 then
       if pc < 172 then
        if pc = 171 then some (.iastore, 172, 0, []) else none
       else
        if pc = 172 then some (.aload_n 0, 173, 0, []) else none
      else
       if pc < 176 then
        if pc = 173 then some (.getfield 90, 176, 11, [42, 1, 54]) else none
       else
        if pc < 177 then
         if pc = 176 then some (.aload_n 0, 177, 0, []) else none
        else
         if pc = 177 then some (.getfield 268, 180, 11, [43, 0, 54]) else none
     else
      if pc < 183 then
       if pc < 181 then
        if pc = 180 then some (.iconst 1, 181, 0, []) else none
       else
        if pc < 182 then
         if pc = 181 then some (.isub, 182, 0, []) else none
        else
         if pc = 182 then some (.caload, 183, 0, []) else none
      else
       if pc < 185 then
        if pc = 183 then some (.bipush 47, 185, 0, []) else none
       else
        if pc < 188 then
         if pc = 185 then some (.if_icmp .eq 24, 188, 209, []) else none
        else
         if pc = 188 then some (.aload_n 0, 189, 0, []) else none
    else
     if pc < 200 then
      if pc < 196 then
       if pc < 192 then
        if pc = 189 then some (.getfield 90, 192, 11, [42, 1, 54]) else none
       else
        if pc < 193 then
         if pc = 192 then some (.aload_n 0, 193, 0, []) else none
        else
         if pc = 193 then some (.getfield 268, 196, 11, [43, 0, 54]) else none
      else
       if pc < 198 then
        if pc = 196 then some (.bipush 47, 198, 0, []) else none
       else
        if pc < 199 then
         if pc = 198 then some (.castore, 199, 0, []) else none
        else
         if pc = 199 then some (.aload_n 0, 200, 0, []) else none
     else
      if pc < 205 then
       if pc < 201 then
        if pc = 200 then some (.dup, 201, 0, []) else none
       else
        if pc < 204 then
         if pc = 201 then some (.getfield 268, 204, 11, [43, 0, 54]) else none
        else
         if pc = 204 then some (.iconst 1, 205, 0, []) else none
      else
       if pc < 206 then
        if pc = 205 then some (.iadd, 206, 0, []) else none
       else
        if pc < 209 then
         if pc = 206 then some (.putfield 268, 209, 11, [43, 0, 54]) else none
        else
         if pc = 209 then some (.aload_n 0, 210, 0, []) else none
   else
    if pc < 236 then
     if pc < 223 then
      if pc < 217 then
       if pc < 211 then
        if pc = 210 then some (.aload_n 0, 211, 0, []) else none
       else
        if pc < 214 then
         if pc = 211 then some (.getfield 268, 214, 11, [43, 0, 54]) else none
        else
         if pc = 214 then some (.putfield 255, 217, 11, [44, 0, 54]) else none
      else
       if pc < 218 then
        if pc = 217 then some (.iconst 0, 218, 0, []) else none
       else
        if pc < 222 then
         if pc = 218 then some (.istore 6, 100220, 6, []) else none
        else
         if pc = 222 then some (.aload_n 0, 223, 0, []) else none
     else
      if pc < 229 then
       if pc < 226 then
        if pc = 223 then some (.getfield 41, 226, 11, [11, 1, 54]) else none
       else
        if pc < 228 then
         if pc = 226 then some (.iload 5, 228, 5, []) else none
        else
         if pc = 228 then some (.iaload, 229, 0, []) else none
      else
       if pc < 232 then
        if pc = 229 then some (.if_icmp .ge 41, 232, 270, []) else none
       else
        if pc < 233 then
         if pc = 232 then some (.aload_n 0, 233, 0, []) else none
        else
         if pc = 233 then some (.getfield 90, 236, 11, [42, 1, 54]) else none
    else
     if pc < 248 then
      if pc < 241 then
       if pc < 237 then
        if pc = 236 then some (.aload_n 0, 237, 0, []) else none
       else
        if pc < 240 then
         if pc = 237 then some (.getfield 268, 240, 11, [43, 0, 54]) else none
        else
         if pc = 240 then some (.aload_n 0, 241, 0, []) else none
      else
       if pc < 244 then
        if pc = 241 then some (.getfield 44, 244, 11, [12, 1, 54]) else none
       else
        if pc < 246 then
         if pc = 244 then some (.bipush 14, 246, 0, []) else none
        else
         if pc = 246 then some (.iload 5, 248, 5, []) else none
     else
      if pc < 252 then
       if pc < 249 then
        if pc = 248 then some (.imul, 249, 0, []) else none
       else
        if pc < 251 then
         if pc = 249 then some (.iload 6, 251, 6, []) else none
        else
         if pc = 251 then some (.iadd, 252, 0, []) else none
      else
       if pc < 253 then
        if pc = 252 then some (.caload, 253, 0, []) else none
       else
        if pc < 254 then
         if pc = 253 then some (.castore, 254, 0, []) else none
        else
         if pc = 254 then some (.aload_n 0, 255, 0, []) else none
  else
   if pc < 300 then
    if pc < 281 then
     if pc < 267 then
      if pc < 260 then
       if pc < 256 then
        if pc = 255 then some (.dup, 256, 0, []) else none
       else
        if pc < 259 then
         if pc = 256 then some (.getfield 268, 259, 11, [43, 0, 54]) else none
        else
         if pc = 259 then some (.iconst 1, 260, 0, []) else none
      else
       if pc < 261 then
        if pc = 260 then some (.iadd, 261, 0, []) else none
       else
        if pc < 264 then
         if pc = 261 then some (.putfield 268, 264, 11, [43, 0, 54]) else none
        else
         if pc = 264 then some (.iinc 6 1, 267, 6, []) else none
     else
      if pc < 272 then
       if pc < 270 then
        if pc = 267 then some (.goto (-47), 270, 100220, []) else none
       else
        if pc < 271 then
         if pc = 270 then some (.aload_n 0, 271, 0, []) else none
        else
         if pc = 271 then some (.aload_n 0, 272, 0, []) else none
      else
       if pc < 275 then
        if pc = 272 then some (.getfield 268, 275, 11, [43, 0, 54]) else none
       else
        if pc < 278 then
         if pc = 275 then some (.putfield 252, 278, 11, [45, 0, 54]) else none
        else
         if pc = 278 then some (.iinc 2 1, 281, 2, []) else none
    else
     if pc < 292 then
      if pc < 286 then
       if pc < 282 then
        if pc = 281 then some (.aload_n 0, 282, 0, []) else none
       else
        if pc < 285 then
         if pc = 282 then some (.getfield 93, 285, 11, [46, 1, 54]) else none
        else
         if pc = 285 then some (.iload_n 2, 286, 2, []) else none
      else
       if pc < 287 then
        if pc = 286 then some (.aload_n 0, 287, 0, []) else none
       else
        if pc < 290 then
         if pc = 287 then some (.getfield 38, 290, 11, [10, 1, 54]) else none
        else
         if pc = 290 then some (.iload 5, 292, 5, []) else none
     else
      if pc < 295 then
       if pc < 293 then
        if pc = 292 then some (.iaload, 293, 0, []) else none
       else
        if pc < 294 then
         if pc = 293 then some (.iastore, 294, 0, []) else none
        else
         if pc = 294 then some (.aload_n 0, 295, 0, []) else none
      else
       if pc < 298 then
        if pc = 295 then some (.getfield 96, 298, 11, [47, 1, 54]) else none
       else
        if pc < 299 then
         if pc = 298 then some (.iload_n 2, 299, 2, []) else none
        else
         if pc = 299 then some (.iconst (-1), 300, 0, []) else none
   else
    if pc < 320 then
     if pc < 310 then
      if pc < 305 then
       if pc < 301 then
        if pc = 300 then some (.iastore, 301, 0, []) else none
       else
        if pc < 302 then
         if pc = 301 then some (.aload_n 0, 302, 0, []) else none
        else
         if pc = 302 then some (.getfield 99, 305, 11, [48, 1, 54]) else none
      else
       if pc < 306 then
        if pc = 305 then some (.iload_n 2, 306, 2, []) else none
       else
        if pc < 307 then
         if pc = 306 then some (.aload_n 0, 307, 0, []) else none
        else
         if pc = 307 then some (.getfield 268, 310, 11, [43, 0, 54]) else none
     else
      if pc < 315 then
       if pc < 311 then
        if pc = 310 then some (.iastore, 311, 0, []) else none
       else
        if pc < 312 then
         if pc = 311 then some (.aload_n 0, 312, 0, []) else none
        else
         if pc = 312 then some (.getfield 102, 315, 11, [49, 1, 54]) else none
      else
       if pc < 316 then
        if pc = 315 then some (.iload_n 2, 316, 2, []) else none
       else
        if pc < 317 then
         if pc = 316 then some (.aload_n 0, 317, 0, []) else none
        else
         if pc = 317 then some (.getfield 255, 320, 11, [44, 0, 54]) else none
    else
     if pc < 329 then
      if pc < 323 then
       if pc < 321 then
        if pc = 320 then some (.iastore, 321, 0, []) else none
       else
        if pc < 322 then
         if pc = 321 then some (.aload_n 0, 322, 0, []) else none
        else
         if pc = 322 then some (.aload_n 0, 323, 0, []) else none
      else
       if pc < 326 then
        if pc = 323 then some (.getfield 38, 326, 11, [10, 1, 54]) else none
       else
        if pc < 328 then
         if pc = 326 then some (.iload 5, 328, 5, []) else none
        else
         if pc = 328 then some (.iaload, 329, 0, []) else none
     else
      if pc < 336 then
       if pc < 332 then
        if pc = 329 then some (.invokevirtual 292, 332, 140, [2, 0, 0, 3, 12, 0, 0]) else none
       else
        if pc < 333 then
         if pc = 332 then some (.istore_n 3, 333, 3, []) else none
        else
         if pc = 333 then some (.goto (-291), 336, 100042, []) else none
      else
       if pc < 100042 then
        if pc = 336 then some (.return_, 337, 0, []) else none
       else
        if pc < 100220 then
         if pc = 100042 then some (.iload_n 3, 43, 3, []) else none
        else
         if pc = 100220 then some (.iload 6, 222, 6, []) else none

def mc_X11_enter (pc : Nat) : Option mE :=
 if pc < 53 then
  if pc < 25 then
   if pc < 12 then
    if pc < 7 then
     if pc < 1 then
      if pc = 0 then some (.aload_n 0, 1, 0, []) else none
     else
      if pc < 4 then
       if pc = 1 then some (.getfield 221, 4, 11, [37, 0, 54]) else none
      else
       if pc = 4 then some (.ifCond .ne 8, 7, 12, []) else none
    else
     if pc < 8 then
      if pc = 7 then some (.aload_n 0, 8, 0, []) else none
     else
      if pc < 9 then
       if pc = 8 then some (.iload_n 1, 9, 1, []) else none
      else
       if pc = 9 then some (.invokevirtual 301, 12, 137, [2, 0, 0, 8, 12, 0, 0]) else none
   else
    if pc < 17 then
     if pc < 13 then
      if pc = 12 then some (.aload_n 0, 13, 0, []) else none
     else
      if pc < 16 then
       if pc = 13 then some (.getfield 7, 16, 11, [1, 1, 54]) else none
      else
       if pc = 16 then some (.iload_n 1, 17, 1, []) else none
    else
     if pc < 21 then
      if pc < 18 then
       if pc = 17 then some (.iaload, 18, 0, []) else none
      else
       if pc = 18 then some (.ifCond .ne 28, 21, 46, []) else none
     else
      if pc < 22 then
       if pc = 21 then some (.aload_n 0, 22, 0, []) else none
      else
       if pc = 22 then some (.getfield 221, 25, 11, [37, 0, 54]) else none
  else
   if pc < 42 then
    if pc < 32 then
     if pc < 28 then
      if pc = 25 then some (.ifCond .ne 10, 28, 35, []) else none
     else
      if pc < 29 then
       if pc = 28 then some (.aload_n 0, 29, 0, []) else none
      else
       if pc = 29 then some (.getfield 283, 32, 11, [41, 0, 54]) else none
    else
     if pc < 36 then
      if pc < 35 then
       if pc = 32 then some (.ifCond .ne 14, 35, 46, []) else none
      else
       if pc = 35 then some (.aload_n 0, 36, 0, []) else none
     else
      if pc < 39 then
       if pc = 36 then some (.getfield 265, 39, 11, [40, 0, 54]) else none
      else
       if pc = 39 then some (.ifCond .ne 7, 42, 46, []) else none
   else
    if pc < 47 then
     if pc < 43 then
      if pc = 42 then some (.iconst 1, 43, 0, []) else none
     else
      if pc < 46 then
       if pc = 43 then some (.goto 4, 46, 47, []) else none
      else
       if pc = 46 then some (.iconst 0, 47, 0, []) else none
    else
     if pc < 49 then
      if pc < 48 then
       if pc = 47 then some (.istore_n 2, 48, 2, []) else none
      else
       if pc = 48 then some (.iload_n 2, 49, 2, []) else none
     else
      if pc < 52 then
       if pc = 49 then some (.ifCond .eq 27, 52, 76, []) else none
      else
       if pc = 52 then some (.aload_n 0, 53, 0, []) else none
 else
  if pc < 75 then
   if pc < 64 then
    if pc < 58 then
     if pc < 56 then
      if pc = 53 then some (.getfield 22, 56, 11, [5, 1, 54]) else none
     else
      if pc < 57 then
       if pc = 56 then some (.iload_n 1, 57, 1, []) else none
      else
       if pc = 57 then some (.iaload, 58, 0, []) else none
    else
     if pc < 60 then
      if pc < 59 then
       if pc = 58 then some (.iconst 5, 59, 0, []) else none
      else
       if pc = 59 then some (.iand, 60, 0, []) else none
     else
      if pc < 61 then
       if pc = 60 then some (.iconst 5, 61, 0, []) else none
      else
       if pc = 61 then some (.if_icmp .eq 15, 64, 76, []) else none
   else
    if pc < 69 then
     if pc < 65 then
      if pc = 64 then some (.aload_n 0, 65, 0, []) else none
     else
      if pc < 66 then
       if pc = 65 then some (.dup, 66, 0, []) else none
      else
       if pc = 66 then some (.getfield 304, 69, 11, [21, 0, 54]) else none
    else
     if pc < 71 then
      if pc < 70 then
       if pc = 69 then some (.iconst 1, 70, 0, []) else none
      else
       if pc = 70 then some (.iadd, 71, 0, []) else none
     else
      if pc < 74 then
       if pc = 71 then some (.putfield 304, 74, 11, [21, 0, 54]) else none
      else
       if pc = 74 then some (.iconst 0, 75, 0, []) else none
  else
   if pc < 88 then
    if pc < 80 then
     if pc < 76 then
      if pc = 75 then some (.istore_n 2, 76, 2, []) else none
     else
      if pc < 77 then
       if pc = 76 then some (.iload_n 2, 77, 2, []) else none
      else
       if pc = 77 then some (.ifCond .ne 22, 80, 99, []) else none
    else
     if pc < 84 then
      if pc < 81 then
       if pc = 80 then some (.aload_n 0, 81, 0, []) else none
      else
       if pc = 81 then some (.getfield 221, 84, 11, [37, 0, 54]) else none
     else
      if pc < 87 then
       if pc = 84 then some (.ifCond .eq 15, 87, 99, []) else none
      else
       if pc = 87 then some (.aload_n 0, 88, 0, []) else none
   else
    if pc < 95 then
     if pc < 91 then
      if pc = 88 then some (.getfield 265, 91, 11, [40, 0, 54]) else none
     else
      if pc < 94 then
       if pc = 91 then some (.ifCond .ne 8, 94, 99, []) else none
      else
       if pc = 94 then some (.aload_n 0, 95, 0, []) else none
    else
     if pc < 99 then
      if pc < 96 then
       if pc = 95 then some (.iload_n 1, 96, 1, []) else none
      else
       if pc = 96 then some (.invokevirtual 301, 99, 137, [2, 0, 0, 8, 12, 0, 0]) else none
     else
      if pc < 100 then
       if pc = 99 then some (.iload_n 2, 100, 2, []) else none
      else
       if pc = 100 then some (.ireturn, 101, 2, []) else none

def mc_X11_lookUp (pc : Nat) : Option mE :=
 if pc < 31 then
  if pc < 16 then
   if pc < 7 then
    if pc < 3 then
     if pc < 1 then
      if pc = 0 then some (.iconst 0, 1, 0, []) else none
     else
      if pc = 1 then some (.istore_n 1, 100002, 1, []) else none
    else
     if pc < 4 then
      if pc = 3 then some (.aload_n 0, 4, 0, []) else none
     else
      if pc = 4 then some (.getfield 214, 7, 11, [27, 0, 54]) else none
   else
    if pc < 11 then
     if pc < 10 then
      if pc = 7 then some (.if_icmp .ge 49, 10, 56, []) else none
     else
      if pc = 10 then some (.aload_n 0, 11, 0, []) else none
    else
     if pc < 14 then
      if pc = 11 then some (.getfield 69, 14, 11, [28, 1, 54]) else none
     else
      if pc < 15 then
       if pc = 14 then some (.iload_n 1, 15, 1, []) else none
      else
       if pc = 15 then some (.iaload, 16, 0, []) else none
  else
   if pc < 22 then
    if pc < 20 then
     if pc < 17 then
      if pc = 16 then some (.iconst 5, 17, 0, []) else none
     else
      if pc = 17 then some (.if_icmp .ne 33, 20, 50, []) else none
    else
     if pc < 21 then
      if pc = 20 then some (.aload_n 0, 21, 0, []) else none
     else
      if pc = 21 then some (.aload_n 0, 22, 0, []) else none
   else
    if pc < 26 then
     if pc < 25 then
      if pc = 22 then some (.getfield 72, 25, 11, [29, 1, 54]) else none
     else
      if pc = 25 then some (.iload_n 1, 26, 1, []) else none
    else
     if pc < 27 then
      if pc = 26 then some (.iaload, 27, 0, []) else none
     else
      if pc < 28 then
       if pc = 27 then some (.iconst 1, 28, 0, []) else none
      else
       if pc = 28 then some (.invokevirtual 193, 31, 108, [3, 0, 0, 3, 12, 0, 0]) else none
 else
  if pc < 44 then
   if pc < 37 then
    if pc < 33 then
     if pc < 32 then
      if pc = 31 then some (.istore_n 2, 32, 2, []) else none
     else
      if pc = 32 then some (.iload_n 2, 33, 2, []) else none
    else
     if pc < 36 then
      if pc = 33 then some (.ifCond .ge 5, 36, 38, []) else none
     else
      if pc = 36 then some (.iload_n 2, 37, 2, []) else none
   else
    if pc < 39 then
     if pc < 38 then
      if pc = 37 then some (.ireturn, 38, 0, []) else none
     else
      if pc = 38 then some (.aload_n 0, 39, 0, []) else none
    else
     if pc < 42 then
      if pc = 39 then some (.getfield 78, 42, 11, [31, 1, 54]) else none
     else
      if pc < 43 then
       if pc = 42 then some (.iload_n 1, 43, 1, []) else none
      else
       if pc = 43 then some (.aload_n 0, 44, 0, []) else none
  else
   if pc < 50 then
    if pc < 48 then
     if pc < 47 then
      if pc = 44 then some (.getfield 16, 47, 11, [3, 1, 54]) else none
     else
      if pc = 47 then some (.iload_n 2, 48, 2, []) else none
    else
     if pc < 49 then
      if pc = 48 then some (.iaload, 49, 0, []) else none
     else
      if pc = 49 then some (.iastore, 50, 0, []) else none
   else
    if pc < 56 then
     if pc < 53 then
      if pc = 50 then some (.iinc 1 1, 53, 1, []) else none
     else
      if pc = 53 then some (.goto (-51), 56, 100002, []) else none
    else
     if pc < 57 then
      if pc = 56 then some (.iconst 0, 57, 0, []) else none
     else
      if pc < 100002 then
       if pc = 57 then some (.ireturn, 58, 0, []) else none
      else
       if pc = 100002 then some (.iload_n 1, 3, 1, []) else none

def mc_X11_find (pc : Nat) : Option mE :=
 if pc < 126 then
  if pc < 63 then
   if pc < 31 then
    if pc < 16 then
     if pc < 8 then
      if pc < 2 then
       if pc < 1 then
        if pc = 0 then some (.aload_n 0, 1, 0, []) else none
       else
        if pc = 1 then some (.iload_n 1, 2, 1, []) else none
      else
       if pc < 5 then
        if pc = 2 then some (.invokestatic 179, 5, 112, [1, 0, 0, 1]) else none
       else
        if pc = 5 then some (.ifCond .eq 7, 8, 12, []) else none
     else
      if pc < 12 then
       if pc < 9 then
        if pc = 8 then some (.iconst 0, 9, 0, []) else none
       else
        if pc = 9 then some (.goto 4, 12, 13, []) else none
      else
       if pc < 13 then
        if pc = 12 then some (.iconst 1, 13, 0, []) else none
       else
        if pc = 13 then some (.invokevirtual 119, 16, 92, [2, 0, 0, 2, 12, 0, 0]) else none
    else
     if pc < 22 then
      if pc < 20 then
       if pc < 19 then
        if pc = 16 then some (.ifCond .eq 5, 19, 21, []) else none
       else
        if pc = 19 then some (.iconst 0, 20, 0, []) else none
      else
       if pc < 21 then
        if pc = 20 then some (.ireturn, 21, 0, []) else none
       else
        if pc = 21 then some (.aload_n 0, 22, 0, []) else none
     else
      if pc < 26 then
       if pc < 25 then
        if pc = 22 then some (.invokevirtual 182, 25, 96, [1, 0, 0, 2, 12, 0, 0]) else none
       else
        if pc = 25 then some (.aload_n 0, 26, 0, []) else none
      else
       if pc < 27 then
        if pc = 26 then some (.iconst 0, 27, 0, []) else none
       else
        if pc < 30 then
         if pc = 27 then some (.putfield 203, 30, 11, [20, 0, 54]) else none
        else
         if pc = 30 then some (.aload_n 0, 31, 0, []) else none
   else
    if pc < 46 then
     if pc < 37 then
      if pc < 35 then
       if pc < 32 then
        if pc = 31 then some (.iconst 0, 32, 0, []) else none
       else
        if pc = 32 then some (.putfield 304, 35, 11, [21, 0, 54]) else none
      else
       if pc < 36 then
        if pc = 35 then some (.aload_n 0, 36, 0, []) else none
       else
        if pc = 36 then some (.iconst (-1), 37, 0, []) else none
     else
      if pc < 41 then
       if pc < 40 then
        if pc = 37 then some (.putfield 59, 40, 11, [22, 0, 54]) else none
       else
        if pc = 40 then some (.aload_n 0, 41, 0, []) else none
      else
       if pc < 42 then
        if pc = 41 then some (.iconst 0, 42, 0, []) else none
       else
        if pc < 45 then
         if pc = 42 then some (.putfield 271, 45, 11, [39, 0, 54]) else none
        else
         if pc = 45 then some (.aload_n 0, 46, 0, []) else none
    else
     if pc < 52 then
      if pc < 50 then
       if pc < 47 then
        if pc = 46 then some (.iconst 0, 47, 0, []) else none
       else
        if pc = 47 then some (.putfield 265, 50, 11, [40, 2, 54]) else none
      else
       if pc < 51 then
        if pc = 50 then some (.aload_n 0, 51, 0, []) else none
       else
        if pc = 51 then some (.iload_n 1, 52, 1, []) else none
     else
      if pc < 56 then
       if pc < 55 then
        if pc = 52 then some (.putfield 280, 55, 11, [38, 0, 54]) else none
       else
        if pc = 55 then some (.aload_n 0, 56, 0, []) else none
      else
       if pc < 59 then
        if pc = 56 then some (.getfield 123, 59, 11, [16, 0, 54]) else none
       else
        if pc < 62 then
         if pc = 59 then some (.ifCond .le 45, 62, 104, []) else none
        else
         if pc = 62 then some (.aload_n 0, 63, 0, []) else none
  else
   if pc < 94 then
    if pc < 79 then
     if pc < 71 then
      if pc < 67 then
       if pc < 66 then
        if pc = 63 then some (.getfield 47, 66, 11, [14, 1, 54]) else none
       else
        if pc = 66 then some (.aload_n 0, 67, 0, []) else none
      else
       if pc < 70 then
        if pc = 67 then some (.getfield 50, 70, 11, [17, 1, 54]) else none
       else
        if pc = 70 then some (.iconst 0, 71, 0, []) else none
     else
      if pc < 73 then
       if pc < 72 then
        if pc = 71 then some (.iaload, 72, 0, []) else none
       else
        if pc = 72 then some (.caload, 73, 0, []) else none
      else
       if pc < 75 then
        if pc = 73 then some (.bipush 45, 75, 0, []) else none
       else
        if pc < 78 then
         if pc = 75 then some (.if_icmp .eq 29, 78, 104, []) else none
        else
         if pc = 78 then some (.aload_n 0, 79, 0, []) else none
    else
     if pc < 86 then
      if pc < 82 then
       if pc < 80 then
        if pc = 79 then some (.iconst 0, 80, 0, []) else none
       else
        if pc = 80 then some (.bipush 40, 82, 0, []) else none
      else
       if pc < 83 then
        if pc = 82 then some (.iconst 0, 83, 0, []) else none
       else
        if pc = 83 then some (.invokevirtual 234, 86, 98, [4, 0, 0, 5, 12, 0, 0]) else none
     else
      if pc < 90 then
       if pc < 89 then
        if pc = 86 then some (.ifCond .ne 18, 89, 104, []) else none
       else
        if pc = 89 then some (.aload_n 0, 90, 0, []) else none
      else
       if pc < 91 then
        if pc = 90 then some (.iconst 0, 91, 0, []) else none
       else
        if pc < 93 then
         if pc = 91 then some (.bipush 33, 93, 0, []) else none
        else
         if pc = 93 then some (.iconst 0, 94, 0, []) else none
   else
    if pc < 111 then
     if pc < 104 then
      if pc < 100 then
       if pc < 97 then
        if pc = 94 then some (.invokevirtual 234, 97, 98, [4, 0, 0, 5, 12, 0, 0]) else none
       else
        if pc = 97 then some (.ifCond .ne 7, 100, 104, []) else none
      else
       if pc < 101 then
        if pc = 100 then some (.iconst 1, 101, 0, []) else none
       else
        if pc = 101 then some (.goto 4, 104, 105, []) else none
     else
      if pc < 106 then
       if pc < 105 then
        if pc = 104 then some (.iconst 0, 105, 0, []) else none
       else
        if pc = 105 then some (.istore_n 2, 106, 2, []) else none
      else
       if pc < 107 then
        if pc = 106 then some (.aload_n 0, 107, 0, []) else none
       else
        if pc < 108 then
         if pc = 107 then some (.iload_n 2, 108, 2, []) else none
        else
         if pc = 108 then some (.ifCond .eq 7, 111, 115, []) else none
    else
     if pc < 119 then
      if pc < 115 then
       if pc < 112 then
        if pc = 111 then some (.iconst 1, 112, 0, []) else none
       else
        if pc = 112 then some (.goto 4, 115, 116, []) else none
      else
       if pc < 116 then
        if pc = 115 then some (.iconst 0, 116, 0, []) else none
       else
        if pc = 116 then some (.invokevirtual 307, 119, 127, [2, 0, 0, 9, 12, 0, 0]) else none
     else
      if pc < 121 then
       if pc < 120 then
        if pc = 119 then some (.istore_n 3, 120, 3, []) else none
       else
        if pc = 120 then some (.iload_n 3, 121, 3, []) else none
      else
       if pc < 124 then
        if pc = 121 then some (.ifCond .lt 11, 124, 132, []) else none
       else
        if pc < 125 then
         if pc = 124 then some (.aload_n 0, 125, 0, []) else none
        else
         if pc = 125 then some (.iload_n 3, 126, 3, []) else none
 else
  if pc < 191 then
   if pc < 158 then
    if pc < 145 then
     if pc < 133 then
      if pc < 131 then
       if pc < 129 then
        if pc = 126 then some (.putfield 59, 129, 11, [22, 0, 54]) else none
       else
        if pc = 129 then some (.bipush (-12), 131, 0, []) else none
      else
       if pc < 132 then
        if pc = 131 then some (.ireturn, 132, 0, []) else none
       else
        if pc = 132 then some (.aload_n 0, 133, 0, []) else none
     else
      if pc < 138 then
       if pc < 136 then
        if pc = 133 then some (.invokevirtual 310, 136, 141, [1, 0, 0, 3, 12, 0, 0]) else none
       else
        if pc = 136 then some (.istore 4, 138, 4, []) else none
      else
       if pc < 140 then
        if pc = 138 then some (.iload 4, 140, 4, []) else none
       else
        if pc < 143 then
         if pc = 140 then some (.ifCond .ge 6, 143, 146, []) else none
        else
         if pc = 143 then some (.iload 4, 145, 4, []) else none
    else
     if pc < 151 then
      if pc < 147 then
       if pc < 146 then
        if pc = 145 then some (.ireturn, 146, 0, []) else none
       else
        if pc = 146 then some (.iload_n 2, 147, 2, []) else none
      else
       if pc < 150 then
        if pc = 147 then some (.ifCond .eq 22, 150, 169, []) else none
       else
        if pc = 150 then some (.aload_n 0, 151, 0, []) else none
     else
      if pc < 155 then
       if pc < 152 then
        if pc = 151 then some (.aload_n 0, 152, 0, []) else none
       else
        if pc = 152 then some (.getfield 50, 155, 11, [17, 1, 54]) else none
      else
       if pc < 156 then
        if pc = 155 then some (.iconst 0, 156, 0, []) else none
       else
        if pc < 157 then
         if pc = 156 then some (.iaload, 157, 0, []) else none
        else
         if pc = 157 then some (.aload_n 0, 158, 0, []) else none
   else
    if pc < 176 then
     if pc < 166 then
      if pc < 162 then
       if pc < 161 then
        if pc = 158 then some (.getfield 53, 161, 11, [18, 1, 54]) else none
       else
        if pc = 161 then some (.iconst 0, 162, 0, []) else none
      else
       if pc < 163 then
        if pc = 162 then some (.iaload, 163, 0, []) else none
       else
        if pc = 163 then some (.invokevirtual 153, 166, 105, [3, 0, 0, 4, 12, 0, 0]) else none
     else
      if pc < 170 then
       if pc < 169 then
        if pc = 166 then some (.goto 16, 169, 182, []) else none
       else
        if pc = 169 then some (.aload_n 0, 170, 0, []) else none
      else
       if pc < 173 then
        if pc = 170 then some (.getfield 63, 173, 11, [23, 1, 54]) else none
       else
        if pc < 174 then
         if pc = 173 then some (.iconst 0, 174, 0, []) else none
        else
         if pc = 174 then some (.bipush 46, 176, 0, []) else none
    else
     if pc < 182 then
      if pc < 178 then
       if pc < 177 then
        if pc = 176 then some (.castore, 177, 0, []) else none
       else
        if pc = 177 then some (.aload_n 0, 178, 0, []) else none
      else
       if pc < 179 then
        if pc = 178 then some (.iconst 1, 179, 0, []) else none
       else
        if pc = 179 then some (.putfield 138, 182, 11, [25, 0, 54]) else none
     else
      if pc < 184 then
       if pc < 183 then
        if pc = 182 then some (.aload_n 0, 183, 0, []) else none
       else
        if pc = 183 then some (.aload_n 0, 184, 0, []) else none
      else
       if pc < 187 then
        if pc = 184 then some (.getfield 138, 187, 11, [25, 0, 54]) else none
       else
        if pc < 190 then
         if pc = 187 then some (.putfield 268, 190, 11, [43, 0, 54]) else none
        else
         if pc = 190 then some (.iconst 0, 191, 0, []) else none
  else
   if pc < 229 then
    if pc < 212 then
     if pc < 202 then
      if pc < 196 then
       if pc < 195 then
        if pc = 191 then some (.istore 5, 100193, 5, []) else none
       else
        if pc = 195 then some (.aload_n 0, 196, 0, []) else none
      else
       if pc < 199 then
        if pc = 196 then some (.getfield 138, 199, 11, [25, 0, 54]) else none
       else
        if pc = 199 then some (.if_icmp .ge 23, 202, 222, []) else none
     else
      if pc < 206 then
       if pc < 203 then
        if pc = 202 then some (.aload_n 0, 203, 0, []) else none
       else
        if pc = 203 then some (.getfield 90, 206, 11, [42, 1, 54]) else none
      else
       if pc < 208 then
        if pc = 206 then some (.iload 5, 208, 5, []) else none
       else
        if pc < 209 then
         if pc = 208 then some (.aload_n 0, 209, 0, []) else none
        else
         if pc = 209 then some (.getfield 63, 212, 11, [23, 1, 54]) else none
    else
     if pc < 219 then
      if pc < 215 then
       if pc < 214 then
        if pc = 212 then some (.iload 5, 214, 5, []) else none
       else
        if pc = 214 then some (.caload, 215, 0, []) else none
      else
       if pc < 216 then
        if pc = 215 then some (.castore, 216, 0, []) else none
       else
        if pc = 216 then some (.iinc 5 1, 219, 5, []) else none
     else
      if pc < 223 then
       if pc < 222 then
        if pc = 219 then some (.goto (-26), 222, 100193, []) else none
       else
        if pc = 222 then some (.aload_n 0, 223, 0, []) else none
      else
       if pc < 224 then
        if pc = 223 then some (.iconst 0, 224, 0, []) else none
       else
        if pc < 227 then
         if pc = 224 then some (.invokevirtual 156, 227, 107, [2, 0, 0, 8, 12, 0, 0]) else none
        else
         if pc = 227 then some (.istore 5, 229, 5, []) else none
   else
    if pc < 247 then
     if pc < 237 then
      if pc < 234 then
       if pc < 231 then
        if pc = 229 then some (.iload 5, 231, 5, []) else none
       else
        if pc = 231 then some (.ifCond .ge 6, 234, 237, []) else none
      else
       if pc < 236 then
        if pc = 234 then some (.iload 5, 236, 5, []) else none
       else
        if pc = 236 then some (.ireturn, 237, 0, []) else none
     else
      if pc < 241 then
       if pc < 238 then
        if pc = 237 then some (.aload_n 0, 238, 0, []) else none
       else
        if pc = 238 then some (.invokevirtual 313, 241, 143, [1, 0, 0, 3, 12, 0, 0]) else none
      else
       if pc < 242 then
        if pc = 241 then some (.aload_n 0, 242, 0, []) else none
       else
        if pc < 244 then
         if pc = 242 then some (.iload 5, 244, 5, []) else none
        else
         if pc = 244 then some (.invokevirtual 316, 247, 139, [2, 0, 0, 7, 12, 0, 0]) else none
    else
     if pc < 256 then
      if pc < 251 then
       if pc < 248 then
        if pc = 247 then some (.aload_n 0, 248, 0, []) else none
       else
        if pc = 248 then some (.getfield 265, 251, 11, [40, 0, 54]) else none
      else
       if pc < 254 then
        if pc = 251 then some (.ifCond .eq 8, 254, 259, []) else none
       else
        if pc = 254 then some (.bipush (-8), 256, 0, []) else none
     else
      if pc < 260 then
       if pc < 259 then
        if pc = 256 then some (.goto 7, 259, 263, []) else none
       else
        if pc = 259 then some (.aload_n 0, 260, 0, []) else none
      else
       if pc < 263 then
        if pc = 260 then some (.getfield 271, 263, 11, [39, 0, 54]) else none
       else
        if pc < 100193 then
         if pc = 263 then some (.ireturn, 264, 0, []) else none
        else
         if pc = 100193 then some (.iload 5, 195, 5, []) else none

def mc_X11_nameTop (pc : Nat) : Option mE :=
 if pc < 44 then
  if pc < 22 then
   if pc < 13 then
    if pc < 6 then
     if pc < 1 then
      if pc = 0 then some (.aload_n 0, 1, 0, []) else none
     else
      if pc < 4 then
       if pc = 1 then some (.getfield 268, 4, 11, [43, 0, 54]) else none
      else
       if pc = 4 then some (.istore_n 1, 100005, 1, []) else none
    else
     if pc < 9 then
      if pc = 6 then some (.ifCond .le 22, 9, 28, []) else none
     else
      if pc < 10 then
       if pc = 9 then some (.aload_n 0, 10, 0, []) else none
      else
       if pc = 10 then some (.getfield 90, 13, 11, [42, 1, 54]) else none
   else
    if pc < 16 then
     if pc < 14 then
      if pc = 13 then some (.iload_n 1, 14, 1, []) else none
     else
      if pc < 15 then
       if pc = 14 then some (.iconst 1, 15, 0, []) else none
      else
       if pc = 15 then some (.isub, 16, 0, []) else none
    else
     if pc < 17 then
      if pc = 16 then some (.caload, 17, 0, []) else none
     else
      if pc < 19 then
       if pc = 17 then some (.bipush 47, 19, 0, []) else none
      else
       if pc = 19 then some (.if_icmp .ne 9, 22, 28, []) else none
  else
   if pc < 35 then
    if pc < 29 then
     if pc < 25 then
      if pc = 22 then some (.iinc 1 (-1), 25, 1, []) else none
     else
      if pc < 28 then
       if pc = 25 then some (.goto (-20), 28, 100005, []) else none
      else
       if pc = 28 then some (.iload_n 1, 29, 1, []) else none
    else
     if pc < 31 then
      if pc = 29 then some (.istore_n 2, 100030, 2, []) else none
     else
      if pc < 34 then
       if pc = 31 then some (.ifCond .le 22, 34, 53, []) else none
      else
       if pc = 34 then some (.aload_n 0, 35, 0, []) else none
   else
    if pc < 40 then
     if pc < 38 then
      if pc = 35 then some (.getfield 90, 38, 11, [42, 1, 54]) else none
     else
      if pc < 39 then
       if pc = 38 then some (.iload_n 2, 39, 2, []) else none
      else
       if pc = 39 then some (.iconst 1, 40, 0, []) else none
    else
     if pc < 41 then
      if pc = 40 then some (.isub, 41, 0, []) else none
     else
      if pc < 42 then
       if pc = 41 then some (.caload, 42, 0, []) else none
      else
       if pc = 42 then some (.bipush 47, 44, 0, []) else none
 else
  if pc < 68 then
   if pc < 58 then
    if pc < 53 then
     if pc < 47 then
      if pc = 44 then some (.if_icmp .eq 9, 47, 53, []) else none
     else
      if pc < 50 then
       if pc = 47 then some (.iinc 2 (-1), 50, 2, []) else none
      else
       if pc = 50 then some (.goto (-20), 53, 100030, []) else none
    else
     if pc < 54 then
      if pc = 53 then some (.aload_n 0, 54, 0, []) else none
     else
      if pc < 55 then
       if pc = 54 then some (.iload_n 1, 55, 1, []) else none
      else
       if pc = 55 then some (.ifCond .ne 7, 58, 62, []) else none
   else
    if pc < 63 then
     if pc < 59 then
      if pc = 58 then some (.iconst 0, 59, 0, []) else none
     else
      if pc < 62 then
       if pc = 59 then some (.goto 4, 62, 63, []) else none
      else
       if pc = 62 then some (.iload_n 2, 63, 2, []) else none
    else
     if pc < 66 then
      if pc = 63 then some (.putfield 255, 66, 11, [44, 0, 54]) else none
     else
      if pc < 67 then
       if pc = 66 then some (.aload_n 0, 67, 0, []) else none
      else
       if pc = 67 then some (.iload_n 1, 68, 1, []) else none
  else
   if pc < 80 then
    if pc < 75 then
     if pc < 71 then
      if pc = 68 then some (.ifCond .ne 7, 71, 75, []) else none
     else
      if pc < 72 then
       if pc = 71 then some (.iconst 1, 72, 0, []) else none
      else
       if pc = 72 then some (.goto 4, 75, 76, []) else none
    else
     if pc < 76 then
      if pc = 75 then some (.iload_n 1, 76, 1, []) else none
     else
      if pc < 79 then
       if pc = 76 then some (.putfield 252, 79, 11, [45, 0, 54]) else none
      else
       if pc = 79 then some (.aload_n 0, 80, 0, []) else none
   else
    if pc < 87 then
     if pc < 81 then
      if pc = 80 then some (.aload_n 0, 81, 0, []) else none
     else
      if pc < 84 then
       if pc = 81 then some (.getfield 252, 84, 11, [45, 0, 54]) else none
      else
       if pc = 84 then some (.putfield 298, 87, 11, [53, 0, 54]) else none
    else
     if pc < 100005 then
      if pc = 87 then some (.return_, 88, 0, []) else none
     else
      if pc < 100030 then
       if pc = 100005 then some (.iload_n 1, 6, 1, []) else none
      else
       if pc = 100030 then some (.iload_n 2, 31, 2, []) else none

def mc_X11_place (pc : Nat) : Option mE :=
 if pc < 5 then
  if pc < 1 then
   if pc = 0 then some (.aload_n 0, 1, 0, []) else none
  else
   if pc < 2 then
    if pc = 1 then some (.iconst 0, 2, 0, []) else none
   else
    if pc = 2 then some (.putfield 109, 5, 11, [0, 0, 54]) else none
 else
  if pc < 6 then
   if pc = 5 then some (.aload_n 0, 6, 0, []) else none
  else
   if pc < 9 then
    if pc = 6 then some (.getfield 59, 9, 11, [22, 0, 54]) else none
   else
    if pc = 9 then some (.ireturn, 10, 0, []) else none

def mc_X11_output (pc : Nat) : Option mE :=
 if pc < 14 then
  if pc < 6 then
   if pc < 2 then
    if pc < 1 then
     if pc = 0 then some (.aload_n 0, 1, 0, []) else none
    else
     if pc = 1 then some (.iconst 0, 2, 0, []) else none
   else
    if pc < 5 then
     if pc = 2 then some (.putfield 109, 5, 11, [0, 0, 54]) else none
    else
     if pc = 5 then some (.iload_n 1, 6, 1, []) else none
  else
   if pc < 10 then
    if pc < 9 then
     if pc = 6 then some (.ifCond .lt 20, 9, 26, []) else none
    else
     if pc = 9 then some (.iload_n 1, 10, 1, []) else none
   else
    if pc < 11 then
     if pc = 10 then some (.aload_n 0, 11, 0, []) else none
    else
     if pc = 11 then some (.getfield 203, 14, 11, [20, 0, 54]) else none
 else
  if pc < 22 then
   if pc < 18 then
    if pc < 17 then
     if pc = 14 then some (.if_icmp .ge 12, 17, 26, []) else none
    else
     if pc = 17 then some (.aload_n 0, 18, 0, []) else none
   else
    if pc < 21 then
     if pc = 18 then some (.getfield 56, 21, 11, [19, 1, 54]) else none
    else
     if pc = 21 then some (.iload_n 1, 22, 1, []) else none
  else
   if pc < 26 then
    if pc < 23 then
     if pc = 22 then some (.caload, 23, 0, []) else none
    else
     if pc = 23 then some (.goto 5, 26, 28, []) else none
   else
    if pc < 28 then
     if pc = 26 then some (.bipush 32, 28, 0, []) else none
    else
     if pc = 28 then some (.ireturn, 29, 3, []) else none

def mc_X11_tell (pc : Nat) : Option mE :=
 if pc < 98 then
  if pc < 34 then
   if pc < 16 then
    if pc < 6 then
     if pc < 2 then
      if pc < 1 then
       if pc = 0 then some (.aload_n 0, 1, 0, []) else none
      else
       if pc = 1 then some (.iload_n 1, 2, 1, []) else none
     else
      if pc < 5 then
       if pc = 2 then some (.ifCond .lt 22, 5, 24, []) else none
      else
       if pc = 5 then some (.iload_n 1, 6, 1, []) else none
    else
     if pc < 11 then
      if pc < 8 then
       if pc = 6 then some (.bipush 48, 8, 0, []) else none
      else
       if pc = 8 then some (.if_icmp .ge 16, 11, 24, []) else none
     else
      if pc < 12 then
       if pc = 11 then some (.aload_n 0, 12, 0, []) else none
      else
       if pc < 15 then
        if pc = 12 then some (.getfield 7, 15, 11, [1, 1, 54]) else none
       else
        if pc = 15 then some (.iload_n 1, 16, 1, []) else none
   else
    if pc < 25 then
     if pc < 20 then
      if pc < 17 then
       if pc = 16 then some (.iaload, 17, 0, []) else none
      else
       if pc = 17 then some (.ifCond .lt 7, 20, 24, []) else none
     else
      if pc < 21 then
       if pc = 20 then some (.iconst 0, 21, 0, []) else none
      else
       if pc < 24 then
        if pc = 21 then some (.goto 4, 24, 25, []) else none
       else
        if pc = 24 then some (.iconst 1, 25, 0, []) else none
    else
     if pc < 31 then
      if pc < 28 then
       if pc = 25 then some (.invokevirtual 119, 28, 92, [2, 0, 0, 2, 12, 0, 0]) else none
      else
       if pc = 28 then some (.ifCond .eq 5, 31, 33, []) else none
     else
      if pc < 32 then
       if pc = 31 then some (.iconst 0, 32, 0, []) else none
      else
       if pc < 33 then
        if pc = 32 then some (.ireturn, 33, 0, []) else none
       else
        if pc = 33 then some (.iload_n 2, 34, 2, []) else none
  else
   if pc < 84 then
    if pc < 77 then
     if pc < 73 then
      if pc < 72 then
       if pc = 34 then some (.tableswitch 125 0 5 #[38, 45, 52, 59, 66, 105], 72, 159, [72, 79, 86, 93, 100, 139]) else none
      else
       if pc = 72 then some (.aload_n 0, 73, 0, []) else none
     else
      if pc < 76 then
       if pc = 73 then some (.getfield 7, 76, 11, [1, 1, 54]) else none
      else
       if pc = 76 then some (.iload_n 1, 77, 1, []) else none
    else
     if pc < 79 then
      if pc < 78 then
       if pc = 77 then some (.iaload, 78, 0, []) else none
      else
       if pc = 78 then some (.ireturn, 79, 0, []) else none
     else
      if pc < 80 then
       if pc = 79 then some (.aload_n 0, 80, 0, []) else none
      else
       if pc < 83 then
        if pc = 80 then some (.getfield 13, 83, 11, [2, 1, 54]) else none
       else
        if pc = 83 then some (.iload_n 1, 84, 1, []) else none
   else
    if pc < 91 then
     if pc < 86 then
      if pc < 85 then
       if pc = 84 then some (.iaload, 85, 0, []) else none
      else
       if pc = 85 then some (.ireturn, 86, 0, []) else none
     else
      if pc < 87 then
       if pc = 86 then some (.aload_n 0, 87, 0, []) else none
      else
       if pc < 90 then
        if pc = 87 then some (.getfield 16, 90, 11, [3, 1, 54]) else none
       else
        if pc = 90 then some (.iload_n 1, 91, 1, []) else none
    else
     if pc < 93 then
      if pc < 92 then
       if pc = 91 then some (.iaload, 92, 0, []) else none
      else
       if pc = 92 then some (.ireturn, 93, 0, []) else none
     else
      if pc < 94 then
       if pc = 93 then some (.aload_n 0, 94, 0, []) else none
      else
       if pc < 97 then
        if pc = 94 then some (.getfield 19, 97, 11, [4, 1, 54]) else none
       else
        if pc = 97 then some (.iload_n 1, 98, 1, []) else none
 else
  if pc < 129 then
   if pc < 113 then
    if pc < 104 then
     if pc < 100 then
      if pc < 99 then
       if pc = 98 then some (.iaload, 99, 0, []) else none
      else
       if pc = 99 then some (.ireturn, 100, 0, []) else none
     else
      if pc < 101 then
       if pc = 100 then some (.aload_n 0, 101, 0, []) else none
      else
       if pc = 101 then some (.getfield 7, 104, 11, [1, 1, 54]) else none
    else
     if pc < 106 then
      if pc < 105 then
       if pc = 104 then some (.iload_n 1, 105, 1, []) else none
      else
       if pc = 105 then some (.iaload, 106, 0, []) else none
     else
      if pc < 109 then
       if pc = 106 then some (.ifCond .ne 12, 109, 118, []) else none
      else
       if pc < 110 then
        if pc = 109 then some (.aload_n 0, 110, 0, []) else none
       else
        if pc = 110 then some (.getfield 35, 113, 11, [9, 1, 54]) else none
   else
    if pc < 122 then
     if pc < 115 then
      if pc < 114 then
       if pc = 113 then some (.iload_n 1, 114, 1, []) else none
      else
       if pc = 114 then some (.iaload, 115, 0, []) else none
     else
      if pc < 118 then
       if pc = 115 then some (.goto 23, 118, 138, []) else none
      else
       if pc < 119 then
        if pc = 118 then some (.aload_n 0, 119, 0, []) else none
       else
        if pc = 119 then some (.getfield 7, 122, 11, [1, 1, 54]) else none
    else
     if pc < 124 then
      if pc < 123 then
       if pc = 122 then some (.iload_n 1, 123, 1, []) else none
      else
       if pc = 123 then some (.iaload, 124, 0, []) else none
     else
      if pc < 125 then
       if pc = 124 then some (.iconst 2, 125, 0, []) else none
      else
       if pc < 128 then
        if pc = 125 then some (.if_icmp .ne 12, 128, 137, []) else none
       else
        if pc = 128 then some (.aload_n 0, 129, 0, []) else none
  else
   if pc < 145 then
    if pc < 138 then
     if pc < 133 then
      if pc < 132 then
       if pc = 129 then some (.getfield 28, 132, 11, [7, 1, 54]) else none
      else
       if pc = 132 then some (.iload_n 1, 133, 1, []) else none
     else
      if pc < 134 then
       if pc = 133 then some (.iaload, 134, 0, []) else none
      else
       if pc < 137 then
        if pc = 134 then some (.goto 4, 137, 138, []) else none
       else
        if pc = 137 then some (.iconst 0, 138, 0, []) else none
    else
     if pc < 140 then
      if pc < 139 then
       if pc = 138 then some (.ireturn, 139, 0, []) else none
      else
       if pc = 139 then some (.aload_n 0, 140, 0, []) else none
     else
      if pc < 143 then
       if pc = 140 then some (.getfield 7, 143, 11, [1, 1, 54]) else none
      else
       if pc < 144 then
        if pc = 143 then some (.iload_n 1, 144, 1, []) else none
       else
        if pc = 144 then some (.iaload, 145, 0, []) else none
   else
    if pc < 154 then
     if pc < 149 then
      if pc < 148 then
       if pc = 145 then some (.ifCond .ne 12, 148, 157, []) else none
      else
       if pc = 148 then some (.aload_n 0, 149, 0, []) else none
     else
      if pc < 152 then
       if pc = 149 then some (.getfield 22, 152, 11, [5, 1, 54]) else none
      else
       if pc < 153 then
        if pc = 152 then some (.iload_n 1, 153, 1, []) else none
       else
        if pc = 153 then some (.iaload, 154, 0, []) else none
    else
     if pc < 158 then
      if pc < 157 then
       if pc = 154 then some (.goto 4, 157, 158, []) else none
      else
       if pc = 157 then some (.iconst 0, 158, 0, []) else none
     else
      if pc < 159 then
       if pc = 158 then some (.ireturn, 159, 0, []) else none
      else
       if pc < 160 then
        if pc = 159 then some (.iconst (-1), 160, 0, []) else none
       else
        if pc = 160 then some (.ireturn, 161, 0, []) else none

def mc_X11_count (pc : Nat) : Option mE :=
 if pc < 32 then
  if pc < 16 then
   if pc < 7 then
    if pc < 2 then
     if pc < 1 then
      if pc = 0 then some (.aload_n 0, 1, 0, []) else none
     else
      if pc = 1 then some (.iconst 0, 2, 0, []) else none
    else
     if pc < 5 then
      if pc = 2 then some (.putfield 109, 5, 11, [0, 0, 54]) else none
     else
      if pc < 6 then
       if pc = 5 then some (.iconst 0, 6, 0, []) else none
      else
       if pc = 6 then some (.istore_n 2, 7, 2, []) else none
   else
    if pc < 10 then
     if pc < 8 then
      if pc = 7 then some (.iconst 0, 8, 0, []) else none
     else
      if pc = 8 then some (.istore_n 3, 100009, 3, []) else none
    else
     if pc < 12 then
      if pc = 10 then some (.bipush 48, 12, 0, []) else none
     else
      if pc < 15 then
       if pc = 12 then some (.if_icmp .ge 26, 15, 38, []) else none
      else
       if pc = 15 then some (.aload_n 0, 16, 0, []) else none
  else
   if pc < 25 then
    if pc < 20 then
     if pc < 19 then
      if pc = 16 then some (.getfield 7, 19, 11, [1, 1, 54]) else none
     else
      if pc = 19 then some (.iload_n 3, 20, 3, []) else none
    else
     if pc < 21 then
      if pc = 20 then some (.iaload, 21, 0, []) else none
     else
      if pc < 24 then
       if pc = 21 then some (.ifCond .lt 9, 24, 30, []) else none
      else
       if pc = 24 then some (.iload_n 2, 25, 2, []) else none
   else
    if pc < 27 then
     if pc < 26 then
      if pc = 25 then some (.iconst 1, 26, 0, []) else none
     else
      if pc = 26 then some (.iadd, 27, 0, []) else none
    else
     if pc < 30 then
      if pc = 27 then some (.goto 4, 30, 31, []) else none
     else
      if pc < 31 then
       if pc = 30 then some (.iload_n 2, 31, 2, []) else none
      else
       if pc = 31 then some (.istore_n 2, 32, 2, []) else none
 else
  if pc < 52 then
   if pc < 43 then
    if pc < 38 then
     if pc < 35 then
      if pc = 32 then some (.iinc 3 1, 35, 3, []) else none
     else
      if pc = 35 then some (.goto (-26), 38, 100009, []) else none
    else
     if pc < 39 then
      if pc = 38 then some (.iload_n 1, 39, 1, []) else none
     else
      if pc < 42 then
       if pc = 39 then some (.ifCond .ne 7, 42, 46, []) else none
      else
       if pc = 42 then some (.iload_n 2, 43, 2, []) else none
   else
    if pc < 47 then
     if pc < 46 then
      if pc = 43 then some (.goto 28, 46, 71, []) else none
     else
      if pc = 46 then some (.iload_n 1, 47, 1, []) else none
    else
     if pc < 48 then
      if pc = 47 then some (.iconst 1, 48, 0, []) else none
     else
      if pc < 51 then
       if pc = 48 then some (.if_icmp .ne 10, 51, 58, []) else none
      else
       if pc = 51 then some (.aload_n 0, 52, 0, []) else none
  else
   if pc < 63 then
    if pc < 58 then
     if pc < 55 then
      if pc = 52 then some (.getfield 304, 55, 11, [21, 0, 54]) else none
     else
      if pc = 55 then some (.goto 16, 58, 71, []) else none
    else
     if pc < 59 then
      if pc = 58 then some (.iload_n 1, 59, 1, []) else none
     else
      if pc < 60 then
       if pc = 59 then some (.iconst 2, 60, 0, []) else none
      else
       if pc = 60 then some (.if_icmp .ne 10, 63, 70, []) else none
   else
    if pc < 70 then
     if pc < 64 then
      if pc = 63 then some (.aload_n 0, 64, 0, []) else none
     else
      if pc < 67 then
       if pc = 64 then some (.getfield 203, 67, 11, [20, 0, 54]) else none
      else
       if pc = 67 then some (.goto 4, 70, 71, []) else none
    else
     if pc < 71 then
      if pc = 70 then some (.iconst (-1), 71, 0, []) else none
     else
      if pc < 100009 then
       if pc = 71 then some (.ireturn, 72, 0, []) else none
      else
       if pc = 100009 then some (.iload_n 3, 10, 3, []) else none

def mc_J0_length (pc : Nat) : Option mE :=
 if pc < 5 then
  if pc < 1 then
   if pc = 0 then some (.aload_n 0, 1, 0, []) else none
  else
   if pc < 4 then
    if pc = 1 then some (.getfield 9, 4, 12, [0]) else none
   else
    if pc = 4 then some (.arraylength, 5, 0, [52]) else none
 else
  if pc < 9 then
   if pc < 6 then
    if pc = 5 then some (.aload_n 0, 6, 0, []) else none
   else
    if pc = 6 then some (.invokevirtual 335, 9, 150, [1, 0, 0, 1, 13, 0, 0]) else none
  else
   if pc < 10 then
    if pc = 9 then some (.ishr, 10, 0, []) else none
   else
    if pc = 10 then some (.ireturn, 11, 0, []) else none

def mc_J0_charAt (pc : Nat) : Option mE :=
 if pc < 12 then
  if pc < 7 then
   if pc < 1 then
    if pc = 0 then some (.aload_n 0, 1, 0, []) else none
   else
    if pc < 4 then
     if pc = 1 then some (.invokevirtual 492, 4, 151, [1, 0, 0, 1, 13, 0, 0]) else none
    else
     if pc = 4 then some (.ifCond .eq 12, 7, 16, []) else none
  else
   if pc < 8 then
    if pc = 7 then some (.aload_n 0, 8, 0, []) else none
   else
    if pc < 11 then
     if pc = 8 then some (.getfield 9, 11, 12, [0]) else none
    else
     if pc = 11 then some (.iload_n 1, 12, 1, []) else none
 else
  if pc < 17 then
   if pc < 15 then
    if pc = 12 then some (.invokestatic 495, 15, 153, [2, 0, 0, 2]) else none
   else
    if pc < 16 then
     if pc = 15 then some (.ireturn, 16, 3, []) else none
    else
     if pc = 16 then some (.aload_n 0, 17, 0, []) else none
  else
   if pc < 20 then
    if pc = 17 then some (.getfield 9, 20, 12, [0]) else none
   else
    if pc < 24 then
     if pc = 20 then some (.iload_n 1, 21, 1, []) else none
    else
     if pc = 24 then some (.ireturn, 25, 3, []) else none

def mc_J0_coder (pc : Nat) : Option mE :=
 if pc < 7 then
  if pc < 3 then
   if pc = 0 then some (.getstatic 38, 3, 1, []) else none
  else
   if pc < 6 then
    if pc = 3 then some (.ifCond .eq 10, 6, 13, []) else none
   else
    if pc = 6 then some (.aload_n 0, 7, 0, []) else none
 else
  if pc < 13 then
   if pc < 10 then
    if pc = 7 then some (.getfield 15, 10, 12, [1]) else none
   else
    if pc = 10 then some (.goto 4, 13, 14, []) else none
  else
   if pc < 14 then
    if pc = 13 then some (.iconst 1, 14, 0, []) else none
   else
    if pc = 14 then some (.ireturn, 15, 4, []) else none

def mc_J0_isLatin1 (pc : Nat) : Option mE :=
 if pc < 10 then
  if pc < 6 then
   if pc < 3 then
    if pc = 0 then some (.getstatic 38, 3, 1, []) else none
   else
    if pc = 3 then some (.ifCond .eq 14, 6, 17, []) else none
  else
   if pc < 7 then
    if pc = 6 then some (.aload_n 0, 7, 0, []) else none
   else
    if pc = 7 then some (.getfield 15, 10, 12, [1]) else none
 else
  if pc < 14 then
   if pc < 13 then
    if pc = 10 then some (.ifCond .ne 7, 13, 17, []) else none
   else
    if pc = 13 then some (.iconst 1, 14, 0, []) else none
  else
   if pc < 17 then
    if pc = 14 then some (.goto 4, 17, 18, []) else none
   else
    if pc < 18 then
     if pc = 17 then some (.iconst 0, 18, 0, []) else none
    else
     if pc = 18 then some (.ireturn, 19, 2, []) else none

def mc_J0_checkIndex (pc : Nat) : Option mE :=
 if pc < 5 then
  if pc < 1 then
   if pc = 0 then some (.iload_n 0, 1, 0, []) else none
  else
   if pc < 2 then
    if pc = 1 then some (.iload_n 1, 2, 1, []) else none
   else
    if pc = 2 then some (.getstatic 1053, 5, 2, []) else none
 else
  if pc < 8 then
   if pc = 5 then some (.invokestatic 1059, 8, 154, [3, 0, 0, 3]) else none
  else
   if pc < 9 then
    if pc = 8 then some (.pop, 9, 0, []) else none
   else
    if pc = 9 then some (.return_, 10, 0, []) else none

def mc_J1_charAt (pc : Nat) : Option mE :=
 if pc < 7 then
  if pc < 2 then
   if pc < 1 then
    if pc = 0 then some (.iload_n 1, 1, 1, []) else none
   else
    if pc = 1 then some (.aload_n 0, 2, 0, []) else none
  else
   if pc < 3 then
    if pc = 2 then some (.arraylength, 3, 0, [52]) else none
   else
    if pc < 6 then
     if pc = 3 then some (.invokestatic 9, 6, 152, [2, 0, 0, 2]) else none
    else
     if pc = 6 then some (.aload_n 0, 7, 0, []) else none
 else
  if pc < 12 then
   if pc < 8 then
    if pc = 7 then some (.iload_n 1, 8, 1, []) else none
   else
    if pc < 9 then
     if pc = 8 then some (.baload, 9, 0, [52]) else none
    else
     if pc = 9 then some (.sipush 255, 12, 0, []) else none
  else
   if pc < 13 then
    if pc = 12 then some (.iand, 13, 0, []) else none
   else
    if pc < 14 then
     if pc = 13 then some (.i2c, 14, 0, []) else none
    else
     if pc = 14 then some (.ireturn, 15, 3, []) else none

def mc_J3_checkIndex (pc : Nat) : Option mE :=
 if pc < 9 then
  if pc < 4 then
   if pc < 1 then
    if pc = 0 then some (.iload_n 0, 1, 0, []) else none
   else
    if pc = 1 then some (.ifCond .lt 8, 4, 9, []) else none
  else
   if pc < 5 then
    if pc = 4 then some (.iload_n 0, 5, 0, []) else none
   else
    if pc < 6 then
     if pc = 5 then some (.iload_n 1, 6, 1, []) else none
    else
     if pc = 6 then some (.if_icmp .lt 10, 9, 16, []) else none
 else
  if pc < 15 then
   if pc < 10 then
    if pc = 9 then some (.aload_n 2, 10, 2, []) else none
   else
    if pc < 11 then
     if pc = 10 then some (.iload_n 0, 11, 0, []) else none
    else
     if pc = 11 then some (.iload_n 1, 12, 1, []) else none
  else
   if pc < 16 then
    if pc = 15 then some (.athrow, 16, 0, []) else none
   else
    if pc < 17 then
     if pc = 16 then some (.iload_n 0, 17, 0, []) else none
    else
     if pc = 17 then some (.ireturn, 18, 0, []) else none

def mc_L_type (pc : Nat) : Option mE :=
 if pc < 11 then
  if pc < 5 then
   if pc < 3 then
    if pc < 2 then
     if pc = 0 then some (.aload 6, 2, 6, []) else none
    else
     if pc = 2 then some (.iconst 0, 3, 0, []) else none
   else
    if pc < 4 then
     if pc = 3 then some (.aload_n 0, 4, 0, []) else none
    else
     if pc = 4 then some (.iload_n 1, 5, 1, []) else none
  else
   if pc < 7 then
    if pc < 6 then
     if pc = 5 then some (.iload_n 2, 6, 2, []) else none
    else
     if pc = 6 then some (.iload_n 3, 7, 3, []) else none
   else
    if pc < 9 then
     if pc = 7 then some (.iload 4, 9, 4, []) else none
    else
     if pc = 9 then some (.iload 5, 11, 5, []) else none
 else
  if pc < 19 then
   if pc < 15 then
    if pc < 14 then
     if pc = 11 then some (.invokevirtual 7, 14, 70, [6, 1, 6, 7, 11, 1, 19]) else none
    else
     if pc = 14 then some (.i2l, 15, 0, []) else none
   else
    if pc < 16 then
     if pc = 15 then some (.lastore, 16, 0, []) else none
    else
     if pc = 16 then some (.goto 7, 19, 23, []) else none
  else
   if pc < 22 then
    if pc < 21 then
     if pc = 19 then some (.astore 7, 21, 7, []) else none
    else
     if pc = 21 then some (.iconst 1, 22, 0, []) else none
   else
    if pc < 23 then
     if pc = 22 then some (.ireturn, 23, 0, []) else none
    else
     if pc < 24 then
      if pc = 23 then some (.iconst 0, 24, 0, []) else none
     else
      if pc = 24 then some (.ireturn, 25, 0, []) else none

def mc_L_make (pc : Nat) : Option mE :=
 if pc < 10 then
  if pc < 4 then
   if pc < 2 then
    if pc = 0 then some (.aload 4, 2, 4, []) else none
   else
    if pc < 3 then
     if pc = 2 then some (.iconst 0, 3, 0, []) else none
    else
     if pc = 3 then some (.aload_n 0, 4, 0, []) else none
  else
   if pc < 6 then
    if pc < 5 then
     if pc = 4 then some (.iload_n 1, 5, 1, []) else none
    else
     if pc = 5 then some (.iload_n 2, 6, 2, []) else none
   else
    if pc < 7 then
     if pc = 6 then some (.iload_n 3, 7, 3, []) else none
    else
     if pc = 7 then some (.invokevirtual 15, 10, 72, [4, 9, 352, 6, 11, 2, 15]) else none
 else
  if pc < 17 then
   if pc < 12 then
    if pc < 11 then
     if pc = 10 then some (.i2l, 11, 0, []) else none
    else
     if pc = 11 then some (.lastore, 12, 0, []) else none
   else
    if pc < 15 then
     if pc = 12 then some (.goto 7, 15, 19, []) else none
    else
     if pc = 15 then some (.astore 5, 17, 5, []) else none
  else
   if pc < 19 then
    if pc < 18 then
     if pc = 17 then some (.iconst 1, 18, 0, []) else none
    else
     if pc = 18 then some (.ireturn, 19, 0, []) else none
   else
    if pc < 20 then
     if pc = 19 then some (.iconst 0, 20, 0, []) else none
    else
     if pc = 20 then some (.ireturn, 21, 0, []) else none

def mc_L_link (pc : Nat) : Option mE :=
 if pc < 8 then
  if pc < 3 then
   if pc < 1 then
    if pc = 0 then some (.aload_n 2, 1, 2, []) else none
   else
    if pc < 2 then
     if pc = 1 then some (.iconst 0, 2, 0, []) else none
    else
     if pc = 2 then some (.aload_n 0, 3, 0, []) else none
  else
   if pc < 4 then
    if pc = 3 then some (.iload_n 1, 4, 1, []) else none
   else
    if pc < 7 then
     if pc = 4 then some (.invokevirtual 21, 7, 73, [2, 6, 230, 5, 11, 2, 12]) else none
    else
     if pc = 7 then some (.i2l, 8, 0, []) else none
 else
  if pc < 13 then
   if pc < 9 then
    if pc = 8 then some (.lastore, 9, 0, []) else none
   else
    if pc < 12 then
     if pc = 9 then some (.goto 6, 12, 15, []) else none
    else
     if pc = 12 then some (.astore_n 3, 13, 3, []) else none
  else
   if pc < 15 then
    if pc < 14 then
     if pc = 13 then some (.iconst 1, 14, 0, []) else none
    else
     if pc = 14 then some (.ireturn, 15, 0, []) else none
   else
    if pc < 16 then
     if pc = 15 then some (.iconst 0, 16, 0, []) else none
    else
     if pc = 16 then some (.ireturn, 17, 0, []) else none

def mc_L_bits (pc : Nat) : Option mE :=
 if pc < 8 then
  if pc < 3 then
   if pc < 1 then
    if pc = 0 then some (.aload_n 2, 1, 2, []) else none
   else
    if pc < 2 then
     if pc = 1 then some (.iconst 0, 2, 0, []) else none
    else
     if pc = 2 then some (.aload_n 0, 3, 0, []) else none
  else
   if pc < 4 then
    if pc = 3 then some (.iload_n 1, 4, 1, []) else none
   else
    if pc < 7 then
     if pc = 4 then some (.invokevirtual 25, 7, 76, [2, 1, 6, 5, 11, 2, 12]) else none
    else
     if pc = 7 then some (.i2l, 8, 0, []) else none
 else
  if pc < 13 then
   if pc < 9 then
    if pc = 8 then some (.lastore, 9, 0, []) else none
   else
    if pc < 12 then
     if pc = 9 then some (.goto 6, 12, 15, []) else none
    else
     if pc = 12 then some (.astore_n 3, 13, 3, []) else none
  else
   if pc < 15 then
    if pc < 14 then
     if pc = 13 then some (.iconst 1, 14, 0, []) else none
    else
     if pc = 14 then some (.ireturn, 15, 0, []) else none
   else
    if pc < 16 then
     if pc = 15 then some (.iconst 0, 16, 0, []) else none
    else
     if pc = 16 then some (.ireturn, 17, 0, []) else none

def mc_L_find (pc : Nat) : Option mE :=
 if pc < 8 then
  if pc < 3 then
   if pc < 1 then
    if pc = 0 then some (.aload_n 2, 1, 2, []) else none
   else
    if pc < 2 then
     if pc = 1 then some (.iconst 0, 2, 0, []) else none
    else
     if pc = 2 then some (.aload_n 0, 3, 0, []) else none
  else
   if pc < 4 then
    if pc = 3 then some (.iload_n 1, 4, 1, []) else none
   else
    if pc < 7 then
     if pc = 4 then some (.invokevirtual 28, 7, 80, [2, 1, 6, 5, 11, 2, 12]) else none
    else
     if pc = 7 then some (.i2l, 8, 0, []) else none
 else
  if pc < 13 then
   if pc < 9 then
    if pc = 8 then some (.lastore, 9, 0, []) else none
   else
    if pc < 12 then
     if pc = 9 then some (.goto 6, 12, 15, []) else none
    else
     if pc = 12 then some (.astore_n 3, 13, 3, []) else none
  else
   if pc < 15 then
    if pc < 14 then
     if pc = 13 then some (.iconst 1, 14, 0, []) else none
    else
     if pc = 14 then some (.ireturn, 15, 0, []) else none
   else
    if pc < 16 then
     if pc = 15 then some (.iconst 0, 16, 0, []) else none
    else
     if pc = 16 then some (.ireturn, 17, 0, []) else none

def mc_L_tell (pc : Nat) : Option mE :=
 if pc < 9 then
  if pc < 3 then
   if pc < 1 then
    if pc = 0 then some (.aload_n 3, 1, 3, []) else none
   else
    if pc < 2 then
     if pc = 1 then some (.iconst 0, 2, 0, []) else none
    else
     if pc = 2 then some (.aload_n 0, 3, 0, []) else none
  else
   if pc < 5 then
    if pc < 4 then
     if pc = 3 then some (.iload_n 1, 4, 1, []) else none
    else
     if pc = 4 then some (.iload_n 2, 5, 2, []) else none
   else
    if pc < 8 then
     if pc = 5 then some (.invokevirtual 31, 8, 83, [3, 1, 6, 4, 11, 3, 13]) else none
    else
     if pc = 8 then some (.i2l, 9, 0, []) else none
 else
  if pc < 15 then
   if pc < 10 then
    if pc = 9 then some (.lastore, 10, 0, []) else none
   else
    if pc < 13 then
     if pc = 10 then some (.goto 7, 13, 17, []) else none
    else
     if pc = 13 then some (.astore 4, 15, 4, []) else none
  else
   if pc < 17 then
    if pc < 16 then
     if pc = 15 then some (.iconst 1, 16, 0, []) else none
    else
     if pc = 16 then some (.ireturn, 17, 0, []) else none
   else
    if pc < 18 then
     if pc = 17 then some (.iconst 0, 18, 0, []) else none
    else
     if pc = 18 then some (.ireturn, 19, 0, []) else none

def mc_L_law (pc : Nat) : Option mE :=
 if pc < 396 then
  if pc < 231 then
   if pc < 151 then
    if pc < 118 then
     if pc < 25 then
      if pc < 12 then
       if pc < 7 then
        if pc < 3 then
         if pc = 0 then some (.new 8, 3, 10, [7]) else none
        else
         if pc < 4 then
          if pc = 3 then some (.dup, 4, 0, []) else none
         else
          if pc = 4 then some (.invokespecial 37, 7, 69, [1, 26, 3561, 1, 11]) else none
       else
        if pc < 8 then
         if pc = 7 then some (.astore_n 1, 8, 1, []) else none
        else
         if pc < 11 then
          if pc = 8 then some (.new 38, 11, 11, [54]) else none
         else
          if pc = 11 then some (.dup, 12, 0, []) else none
      else
       if pc < 17 then
        if pc < 15 then
         if pc = 12 then some (.invokespecial 40, 15, 90, [1, 31, 17956, 2, 12]) else none
        else
         if pc < 16 then
          if pc = 15 then some (.astore_n 2, 16, 2, []) else none
         else
          if pc = 16 then some (.iconst 1, 17, 0, []) else none
       else
        if pc < 20 then
         if pc < 19 then
          if pc = 17 then some (.newarray .long, 19, 23, []) else none
         else
          if pc = 19 then some (.astore_n 3, 20, 3, []) else none
        else
         if pc < 21 then
          if pc = 20 then some (.iconst 0, 21, 0, []) else none
         else
          if pc = 21 then some (.istore 4, 100023, 4, []) else none
     else
      if pc < 34 then
       if pc < 29 then
        if pc < 26 then
         if pc = 25 then some (.aload_n 0, 26, 0, []) else none
        else
         if pc < 27 then
          if pc = 26 then some (.arraylength, 27, 0, []) else none
         else
          if pc = 27 then some (.bipush 6, 29, 0, []) else none
       else
        if pc < 30 then
         if pc = 29 then some (.isub, 30, 0, []) else none
        else
         if pc < 33 then
          if pc = 30 then some (.if_icmp .gt 697, 33, 727, []) else none
         else
          if pc = 33 then some (.aload_n 0, 34, 0, []) else none
      else
       if pc < 39 then
        if pc < 36 then
         if pc = 34 then some (.iload 4, 36, 4, []) else none
        else
         if pc < 37 then
          if pc = 36 then some (.iaload, 37, 0, []) else none
         else
          if pc = 37 then some (.bipush 15, 39, 0, []) else none
       else
        if pc < 116 then
         if pc < 40 then
          if pc = 39 then some (.iand, 40, 0, []) else none
         else
          if pc = 40 then some (.tableswitch 681 0 14 #[76, 180, 193, 289, 345, 358, 371, 427, 440, 481, 494, 550, 563, 588, 656], 116, 721, [116, 220, 233, 329, 385, 398, 411, 467, 480, 521, 534, 590, 603, 628, 696]) else none
        else
         if pc < 117 then
          if pc = 116 then some (.aload_n 1, 117, 1, []) else none
         else
          if pc = 117 then some (.aload_n 0, 118, 0, []) else none
    else
     if pc < 134 then
      if pc < 126 then
       if pc < 122 then
        if pc < 120 then
         if pc = 118 then some (.iload 4, 120, 4, []) else none
        else
         if pc < 121 then
          if pc = 120 then some (.iconst 1, 121, 0, []) else none
         else
          if pc = 121 then some (.iadd, 122, 0, []) else none
       else
        if pc < 123 then
         if pc = 122 then some (.iaload, 123, 0, []) else none
        else
         if pc < 124 then
          if pc = 123 then some (.aload_n 0, 124, 0, []) else none
         else
          if pc = 124 then some (.iload 4, 126, 4, []) else none
      else
       if pc < 129 then
        if pc < 127 then
         if pc = 126 then some (.iconst 2, 127, 0, []) else none
        else
         if pc < 128 then
          if pc = 127 then some (.iadd, 128, 0, []) else none
         else
          if pc = 128 then some (.iaload, 129, 0, []) else none
       else
        if pc < 132 then
         if pc < 130 then
          if pc = 129 then some (.aload_n 0, 130, 0, []) else none
         else
          if pc = 130 then some (.iload 4, 132, 4, []) else none
        else
         if pc < 133 then
          if pc = 132 then some (.iconst 3, 133, 0, []) else none
         else
          if pc = 133 then some (.iadd, 134, 0, []) else none
     else
      if pc < 141 then
       if pc < 138 then
        if pc < 135 then
         if pc = 134 then some (.iaload, 135, 0, []) else none
        else
         if pc < 136 then
          if pc = 135 then some (.aload_n 0, 136, 0, []) else none
         else
          if pc = 136 then some (.iload 4, 138, 4, []) else none
       else
        if pc < 139 then
         if pc = 138 then some (.iconst 4, 139, 0, []) else none
        else
         if pc < 140 then
          if pc = 139 then some (.iadd, 140, 0, []) else none
         else
          if pc = 140 then some (.iaload, 141, 0, []) else none
      else
       if pc < 145 then
        if pc < 142 then
         if pc = 141 then some (.aload_n 0, 142, 0, []) else none
        else
         if pc < 144 then
          if pc = 142 then some (.iload 4, 144, 4, []) else none
         else
          if pc = 144 then some (.iconst 5, 145, 0, []) else none
       else
        if pc < 147 then
         if pc < 146 then
          if pc = 145 then some (.iadd, 146, 0, []) else none
         else
          if pc = 146 then some (.iaload, 147, 0, []) else none
        else
         if pc < 148 then
          if pc = 147 then some (.aload_n 3, 148, 3, []) else none
         else
          if pc = 148 then some (.invokestatic 41, 151, 155, [7, 1, 6, 8]) else none
   else
    if pc < 183 then
     if pc < 167 then
      if pc < 159 then
       if pc < 155 then
        if pc < 153 then
         if pc = 151 then some (.istore 5, 153, 5, []) else none
        else
         if pc < 154 then
          if pc = 153 then some (.aload_n 2, 154, 2, []) else none
         else
          if pc = 154 then some (.aload_n 0, 155, 0, []) else none
       else
        if pc < 157 then
         if pc = 155 then some (.iload 4, 157, 4, []) else none
        else
         if pc < 158 then
          if pc = 157 then some (.iconst 1, 158, 0, []) else none
         else
          if pc = 158 then some (.iadd, 159, 0, []) else none
      else
       if pc < 163 then
        if pc < 160 then
         if pc = 159 then some (.iaload, 160, 0, []) else none
        else
         if pc < 161 then
          if pc = 160 then some (.aload_n 0, 161, 0, []) else none
         else
          if pc = 161 then some (.iload 4, 163, 4, []) else none
       else
        if pc < 165 then
         if pc < 164 then
          if pc = 163 then some (.iconst 2, 164, 0, []) else none
         else
          if pc = 164 then some (.iadd, 165, 0, []) else none
        else
         if pc < 166 then
          if pc = 165 then some (.iaload, 166, 0, []) else none
         else
          if pc = 166 then some (.aload_n 0, 167, 0, []) else none
     else
      if pc < 175 then
       if pc < 171 then
        if pc < 169 then
         if pc = 167 then some (.iload 4, 169, 4, []) else none
        else
         if pc < 170 then
          if pc = 169 then some (.iconst 3, 170, 0, []) else none
         else
          if pc = 170 then some (.iadd, 171, 0, []) else none
       else
        if pc < 172 then
         if pc = 171 then some (.iaload, 172, 0, []) else none
        else
         if pc < 173 then
          if pc = 172 then some (.aload_n 0, 173, 0, []) else none
         else
          if pc = 173 then some (.iload 4, 175, 4, []) else none
      else
       if pc < 178 then
        if pc < 176 then
         if pc = 175 then some (.iconst 4, 176, 0, []) else none
        else
         if pc < 177 then
          if pc = 176 then some (.iadd, 177, 0, []) else none
         else
          if pc = 177 then some (.iaload, 178, 0, []) else none
       else
        if pc < 181 then
         if pc < 179 then
          if pc = 178 then some (.aload_n 0, 179, 0, []) else none
         else
          if pc = 179 then some (.iload 4, 181, 4, []) else none
        else
         if pc < 182 then
          if pc = 181 then some (.iconst 5, 182, 0, []) else none
         else
          if pc = 182 then some (.iadd, 183, 0, []) else none
    else
     if pc < 207 then
      if pc < 195 then
       if pc < 189 then
        if pc < 184 then
         if pc = 183 then some (.iaload, 184, 0, []) else none
        else
         if pc < 187 then
          if pc = 184 then some (.invokevirtual 46, 187, 94, [6, 0, 0, 10, 12, 0, 0]) else none
         else
          if pc = 187 then some (.istore 6, 189, 6, []) else none
       else
        if pc < 190 then
         if pc = 189 then some (.aload_n 2, 190, 2, []) else none
        else
         if pc < 193 then
          if pc = 190 then some (.invokevirtual 47, 193, 91, [1, 0, 0, 1, 12, 0, 0]) else none
         else
          if pc = 193 then some (.iload 5, 195, 5, []) else none
      else
       if pc < 200 then
        if pc < 198 then
         if pc = 195 then some (.if_icmp .eq 5, 198, 200, []) else none
        else
         if pc < 199 then
          if pc = 198 then some (.iconst 0, 199, 0, []) else none
         else
          if pc = 199 then some (.ireturn, 200, 2, []) else none
       else
        if pc < 205 then
         if pc < 202 then
          if pc = 200 then some (.iload 5, 202, 5, []) else none
         else
          if pc = 202 then some (.ifCond .ne 15, 205, 217, []) else none
        else
         if pc < 206 then
          if pc = 205 then some (.aload_n 3, 206, 3, []) else none
         else
          if pc = 206 then some (.iconst 0, 207, 0, []) else none
     else
      if pc < 216 then
       if pc < 211 then
        if pc < 208 then
         if pc = 207 then some (.laload, 208, 0, []) else none
        else
         if pc < 210 then
          if pc = 208 then some (.iload 6, 210, 6, []) else none
         else
          if pc = 210 then some (.i2l, 211, 0, []) else none
       else
        if pc < 212 then
         if pc = 211 then some (.lcmp, 212, 0, []) else none
        else
         if pc < 215 then
          if pc = 212 then some (.ifCond .eq 5, 215, 217, []) else none
         else
          if pc = 215 then some (.iconst 0, 216, 0, []) else none
      else
       if pc < 221 then
        if pc < 217 then
         if pc = 216 then some (.ireturn, 217, 2, []) else none
        else
         if pc < 220 then
          if pc = 217 then some (.goto 504, 220, 721, []) else none
         else
          if pc = 220 then some (.aload_n 1, 221, 1, []) else none
       else
        if pc < 225 then
         if pc < 224 then
          if pc = 221 then some (.invokevirtual 51, 224, 71, [1, 0, 0, 2, 11, 0, 0]) else none
         else
          if pc = 224 then some (.aload_n 2, 225, 2, []) else none
        else
         if pc < 228 then
          if pc = 225 then some (.invokevirtual 54, 228, 95, [1, 0, 0, 2, 12, 0, 0]) else none
         else
          if pc = 228 then some (.if_icmp .eq 493, 231, 721, []) else none
  else
   if pc < 308 then
    if pc < 267 then
     if pc < 249 then
      if pc < 238 then
       if pc < 234 then
        if pc < 232 then
         if pc = 231 then some (.iconst 0, 232, 0, []) else none
        else
         if pc < 233 then
          if pc = 232 then some (.ireturn, 233, 2, []) else none
         else
          if pc = 233 then some (.aload_n 1, 234, 1, []) else none
       else
        if pc < 235 then
         if pc = 234 then some (.aload_n 0, 235, 0, []) else none
        else
         if pc < 237 then
          if pc = 235 then some (.iload 4, 237, 4, []) else none
         else
          if pc = 237 then some (.iconst 1, 238, 0, []) else none
      else
       if pc < 243 then
        if pc < 239 then
         if pc = 238 then some (.iadd, 239, 0, []) else none
        else
         if pc < 240 then
          if pc = 239 then some (.iaload, 240, 0, []) else none
         else
          if pc = 240 then some (.ifCond .eq 7, 243, 247, []) else none
       else
        if pc < 247 then
         if pc < 244 then
          if pc = 243 then some (.iconst 1, 244, 0, []) else none
         else
          if pc = 244 then some (.goto 4, 247, 248, []) else none
        else
         if pc < 248 then
          if pc = 247 then some (.iconst 0, 248, 0, []) else none
         else
          if pc = 248 then some (.aload_n 0, 249, 0, []) else none
     else
      if pc < 257 then
       if pc < 253 then
        if pc < 251 then
         if pc = 249 then some (.iload 4, 251, 4, []) else none
        else
         if pc < 252 then
          if pc = 251 then some (.iconst 2, 252, 0, []) else none
         else
          if pc = 252 then some (.iadd, 253, 0, []) else none
       else
        if pc < 254 then
         if pc = 253 then some (.iaload, 254, 0, []) else none
        else
         if pc < 255 then
          if pc = 254 then some (.aload_n 0, 255, 0, []) else none
         else
          if pc = 255 then some (.iload 4, 257, 4, []) else none
      else
       if pc < 260 then
        if pc < 258 then
         if pc = 257 then some (.iconst 3, 258, 0, []) else none
        else
         if pc < 259 then
          if pc = 258 then some (.iadd, 259, 0, []) else none
         else
          if pc = 259 then some (.iaload, 260, 0, []) else none
       else
        if pc < 264 then
         if pc < 261 then
          if pc = 260 then some (.aload_n 3, 261, 3, []) else none
         else
          if pc = 261 then some (.invokestatic 55, 264, 156, [5, 9, 352, 6]) else none
        else
         if pc < 266 then
          if pc = 264 then some (.istore 5, 266, 5, []) else none
         else
          if pc = 266 then some (.aload_n 2, 267, 2, []) else none
    else
     if pc < 286 then
      if pc < 276 then
       if pc < 271 then
        if pc < 268 then
         if pc = 267 then some (.aload_n 0, 268, 0, []) else none
        else
         if pc < 270 then
          if pc = 268 then some (.iload 4, 270, 4, []) else none
         else
          if pc = 270 then some (.iconst 1, 271, 0, []) else none
       else
        if pc < 272 then
         if pc = 271 then some (.iadd, 272, 0, []) else none
        else
         if pc < 273 then
          if pc = 272 then some (.iaload, 273, 0, []) else none
         else
          if pc = 273 then some (.ifCond .eq 7, 276, 280, []) else none
      else
       if pc < 281 then
        if pc < 277 then
         if pc = 276 then some (.iconst 1, 277, 0, []) else none
        else
         if pc < 280 then
          if pc = 277 then some (.goto 4, 280, 281, []) else none
         else
          if pc = 280 then some (.iconst 0, 281, 0, []) else none
       else
        if pc < 284 then
         if pc < 282 then
          if pc = 281 then some (.aload_n 0, 282, 0, []) else none
         else
          if pc = 282 then some (.iload 4, 284, 4, []) else none
        else
         if pc < 285 then
          if pc = 284 then some (.iconst 2, 285, 0, []) else none
         else
          if pc = 285 then some (.iadd, 286, 0, []) else none
     else
      if pc < 293 then
       if pc < 290 then
        if pc < 287 then
         if pc = 286 then some (.iaload, 287, 0, []) else none
        else
         if pc < 288 then
          if pc = 287 then some (.aload_n 0, 288, 0, []) else none
         else
          if pc = 288 then some (.iload 4, 290, 4, []) else none
       else
        if pc < 291 then
         if pc = 290 then some (.iconst 3, 291, 0, []) else none
        else
         if pc < 292 then
          if pc = 291 then some (.iadd, 292, 0, []) else none
         else
          if pc = 292 then some (.iaload, 293, 0, []) else none
      else
       if pc < 299 then
        if pc < 296 then
         if pc = 293 then some (.invokevirtual 58, 296, 113, [4, 0, 0, 5, 12, 0, 0]) else none
        else
         if pc < 298 then
          if pc = 296 then some (.istore 6, 298, 6, []) else none
         else
          if pc = 298 then some (.aload_n 2, 299, 2, []) else none
       else
        if pc < 304 then
         if pc < 302 then
          if pc = 299 then some (.invokevirtual 47, 302, 91, [1, 0, 0, 1, 12, 0, 0]) else none
         else
          if pc = 302 then some (.iload 5, 304, 5, []) else none
        else
         if pc < 307 then
          if pc = 304 then some (.if_icmp .eq 5, 307, 309, []) else none
         else
          if pc = 307 then some (.iconst 0, 308, 0, []) else none
   else
    if pc < 347 then
     if pc < 329 then
      if pc < 317 then
       if pc < 314 then
        if pc < 309 then
         if pc = 308 then some (.ireturn, 309, 2, []) else none
        else
         if pc < 311 then
          if pc = 309 then some (.iload 5, 311, 5, []) else none
         else
          if pc = 311 then some (.ifCond .ne 15, 314, 326, []) else none
       else
        if pc < 315 then
         if pc = 314 then some (.aload_n 3, 315, 3, []) else none
        else
         if pc < 316 then
          if pc = 315 then some (.iconst 0, 316, 0, []) else none
         else
          if pc = 316 then some (.laload, 317, 0, []) else none
      else
       if pc < 321 then
        if pc < 319 then
         if pc = 317 then some (.iload 6, 319, 6, []) else none
        else
         if pc < 320 then
          if pc = 319 then some (.i2l, 320, 0, []) else none
         else
          if pc = 320 then some (.lcmp, 321, 0, []) else none
       else
        if pc < 325 then
         if pc < 324 then
          if pc = 321 then some (.ifCond .eq 5, 324, 326, []) else none
         else
          if pc = 324 then some (.iconst 0, 325, 0, []) else none
        else
         if pc < 326 then
          if pc = 325 then some (.ireturn, 326, 2, []) else none
         else
          if pc = 326 then some (.goto 395, 329, 721, []) else none
     else
      if pc < 336 then
       if pc < 333 then
        if pc < 330 then
         if pc = 329 then some (.aload_n 1, 330, 1, []) else none
        else
         if pc < 331 then
          if pc = 330 then some (.aload_n 0, 331, 0, []) else none
         else
          if pc = 331 then some (.iload 4, 333, 4, []) else none
       else
        if pc < 334 then
         if pc = 333 then some (.iconst 1, 334, 0, []) else none
        else
         if pc < 335 then
          if pc = 334 then some (.iadd, 335, 0, []) else none
         else
          if pc = 335 then some (.iaload, 336, 0, []) else none
      else
       if pc < 342 then
        if pc < 337 then
         if pc = 336 then some (.aload_n 3, 337, 3, []) else none
        else
         if pc < 340 then
          if pc = 337 then some (.invokestatic 59, 340, 157, [3, 6, 230, 4]) else none
         else
          if pc = 340 then some (.istore 5, 342, 5, []) else none
       else
        if pc < 344 then
         if pc < 343 then
          if pc = 342 then some (.aload_n 2, 343, 2, []) else none
         else
          if pc = 343 then some (.aload_n 0, 344, 0, []) else none
        else
         if pc < 346 then
          if pc = 344 then some (.iload 4, 346, 4, []) else none
         else
          if pc = 346 then some (.iconst 1, 347, 0, []) else none
    else
     if pc < 371 then
      if pc < 358 then
       if pc < 352 then
        if pc < 348 then
         if pc = 347 then some (.iadd, 348, 0, []) else none
        else
         if pc < 349 then
          if pc = 348 then some (.iaload, 349, 0, []) else none
         else
          if pc = 349 then some (.invokevirtual 62, 352, 114, [2, 0, 0, 5, 12, 0, 0]) else none
       else
        if pc < 354 then
         if pc = 352 then some (.istore 6, 354, 6, []) else none
        else
         if pc < 355 then
          if pc = 354 then some (.aload_n 2, 355, 2, []) else none
         else
          if pc = 355 then some (.invokevirtual 47, 358, 91, [1, 0, 0, 1, 12, 0, 0]) else none
      else
       if pc < 364 then
        if pc < 360 then
         if pc = 358 then some (.iload 5, 360, 5, []) else none
        else
         if pc < 363 then
          if pc = 360 then some (.if_icmp .eq 5, 363, 365, []) else none
         else
          if pc = 363 then some (.iconst 0, 364, 0, []) else none
       else
        if pc < 367 then
         if pc < 365 then
          if pc = 364 then some (.ireturn, 365, 2, []) else none
         else
          if pc = 365 then some (.iload 5, 367, 5, []) else none
        else
         if pc < 370 then
          if pc = 367 then some (.ifCond .ne 15, 370, 382, []) else none
         else
          if pc = 370 then some (.aload_n 3, 371, 3, []) else none
     else
      if pc < 381 then
       if pc < 375 then
        if pc < 372 then
         if pc = 371 then some (.iconst 0, 372, 0, []) else none
        else
         if pc < 373 then
          if pc = 372 then some (.laload, 373, 0, []) else none
         else
          if pc = 373 then some (.iload 6, 375, 6, []) else none
       else
        if pc < 377 then
         if pc < 376 then
          if pc = 375 then some (.i2l, 376, 0, []) else none
         else
          if pc = 376 then some (.lcmp, 377, 0, []) else none
        else
         if pc < 380 then
          if pc = 377 then some (.ifCond .eq 5, 380, 382, []) else none
         else
          if pc = 380 then some (.iconst 0, 381, 0, []) else none
      else
       if pc < 386 then
        if pc < 382 then
         if pc = 381 then some (.ireturn, 382, 2, []) else none
        else
         if pc < 385 then
          if pc = 382 then some (.goto 339, 385, 721, []) else none
         else
          if pc = 385 then some (.aload_n 1, 386, 1, []) else none
       else
        if pc < 390 then
         if pc < 389 then
          if pc = 386 then some (.invokevirtual 63, 389, 74, [1, 2, 102, 3, 11, 0, 0]) else none
         else
          if pc = 389 then some (.aload_n 2, 390, 2, []) else none
        else
         if pc < 393 then
          if pc = 390 then some (.invokevirtual 66, 393, 115, [1, 0, 0, 3, 12, 0, 0]) else none
         else
          if pc = 393 then some (.if_icmp .eq 328, 396, 721, []) else none
 else
  if pc < 568 then
   if pc < 481 then
    if pc < 436 then
     if pc < 416 then
      if pc < 406 then
       if pc < 399 then
        if pc < 397 then
         if pc = 396 then some (.iconst 0, 397, 0, []) else none
        else
         if pc < 398 then
          if pc = 397 then some (.ireturn, 398, 2, []) else none
         else
          if pc = 398 then some (.aload_n 1, 399, 1, []) else none
       else
        if pc < 402 then
         if pc = 399 then some (.invokevirtual 67, 402, 75, [1, 0, 0, 4, 11, 0, 0]) else none
        else
         if pc < 403 then
          if pc = 402 then some (.aload_n 2, 403, 2, []) else none
         else
          if pc = 403 then some (.invokevirtual 70, 406, 116, [1, 0, 0, 2, 12, 0, 0]) else none
      else
       if pc < 411 then
        if pc < 409 then
         if pc = 406 then some (.if_icmp .eq 315, 409, 721, []) else none
        else
         if pc < 410 then
          if pc = 409 then some (.iconst 0, 410, 0, []) else none
         else
          if pc = 410 then some (.ireturn, 411, 2, []) else none
       else
        if pc < 413 then
         if pc < 412 then
          if pc = 411 then some (.aload_n 1, 412, 1, []) else none
         else
          if pc = 412 then some (.aload_n 0, 413, 0, []) else none
        else
         if pc < 415 then
          if pc = 413 then some (.iload 4, 415, 4, []) else none
         else
          if pc = 415 then some (.iconst 1, 416, 0, []) else none
     else
      if pc < 425 then
       if pc < 419 then
        if pc < 417 then
         if pc = 416 then some (.iadd, 417, 0, []) else none
        else
         if pc < 418 then
          if pc = 417 then some (.iaload, 418, 0, []) else none
         else
          if pc = 418 then some (.aload_n 3, 419, 3, []) else none
       else
        if pc < 422 then
         if pc = 419 then some (.invokestatic 71, 422, 158, [3, 1, 6, 4]) else none
        else
         if pc < 424 then
          if pc = 422 then some (.istore 5, 424, 5, []) else none
         else
          if pc = 424 then some (.aload_n 2, 425, 2, []) else none
      else
       if pc < 429 then
        if pc < 426 then
         if pc = 425 then some (.aload_n 0, 426, 0, []) else none
        else
         if pc < 428 then
          if pc = 426 then some (.iload 4, 428, 4, []) else none
         else
          if pc = 428 then some (.iconst 1, 429, 0, []) else none
       else
        if pc < 431 then
         if pc < 430 then
          if pc = 429 then some (.iadd, 430, 0, []) else none
         else
          if pc = 430 then some (.iaload, 431, 0, []) else none
        else
         if pc < 434 then
          if pc = 431 then some (.invokevirtual 73, 434, 117, [2, 0, 0, 4, 12, 0, 0]) else none
         else
          if pc = 434 then some (.istore 6, 436, 6, []) else none
    else
     if pc < 458 then
      if pc < 447 then
       if pc < 442 then
        if pc < 437 then
         if pc = 436 then some (.aload_n 2, 437, 2, []) else none
        else
         if pc < 440 then
          if pc = 437 then some (.invokevirtual 47, 440, 91, [1, 0, 0, 1, 12, 0, 0]) else none
         else
          if pc = 440 then some (.iload 5, 442, 5, []) else none
       else
        if pc < 445 then
         if pc = 442 then some (.if_icmp .eq 5, 445, 447, []) else none
        else
         if pc < 446 then
          if pc = 445 then some (.iconst 0, 446, 0, []) else none
         else
          if pc = 446 then some (.ireturn, 447, 2, []) else none
      else
       if pc < 453 then
        if pc < 449 then
         if pc = 447 then some (.iload 5, 449, 5, []) else none
        else
         if pc < 452 then
          if pc = 449 then some (.ifCond .ne 15, 452, 464, []) else none
         else
          if pc = 452 then some (.aload_n 3, 453, 3, []) else none
       else
        if pc < 455 then
         if pc < 454 then
          if pc = 453 then some (.iconst 0, 454, 0, []) else none
         else
          if pc = 454 then some (.laload, 455, 0, []) else none
        else
         if pc < 457 then
          if pc = 455 then some (.iload 6, 457, 6, []) else none
         else
          if pc = 457 then some (.i2l, 458, 0, []) else none
     else
      if pc < 468 then
       if pc < 463 then
        if pc < 459 then
         if pc = 458 then some (.lcmp, 459, 0, []) else none
        else
         if pc < 462 then
          if pc = 459 then some (.ifCond .eq 5, 462, 464, []) else none
         else
          if pc = 462 then some (.iconst 0, 463, 0, []) else none
       else
        if pc < 464 then
         if pc = 463 then some (.ireturn, 464, 2, []) else none
        else
         if pc < 467 then
          if pc = 464 then some (.goto 257, 467, 721, []) else none
         else
          if pc = 467 then some (.aload_n 1, 468, 1, []) else none
      else
       if pc < 475 then
        if pc < 471 then
         if pc = 468 then some (.invokevirtual 74, 471, 77, [1, 0, 0, 3, 11, 0, 0]) else none
        else
         if pc < 472 then
          if pc = 471 then some (.aload_n 2, 472, 2, []) else none
         else
          if pc = 472 then some (.invokevirtual 77, 475, 118, [1, 0, 0, 2, 12, 0, 0]) else none
       else
        if pc < 479 then
         if pc < 478 then
          if pc = 475 then some (.if_icmp .eq 246, 478, 721, []) else none
         else
          if pc = 478 then some (.iconst 0, 479, 0, []) else none
        else
         if pc < 480 then
          if pc = 479 then some (.ireturn, 480, 2, []) else none
         else
          if pc = 480 then some (.aload_n 1, 481, 1, []) else none
   else
    if pc < 525 then
     if pc < 502 then
      if pc < 490 then
       if pc < 485 then
        if pc < 482 then
         if pc = 481 then some (.aload_n 0, 482, 0, []) else none
        else
         if pc < 484 then
          if pc = 482 then some (.iload 4, 484, 4, []) else none
         else
          if pc = 484 then some (.iconst 1, 485, 0, []) else none
       else
        if pc < 486 then
         if pc = 485 then some (.iadd, 486, 0, []) else none
        else
         if pc < 487 then
          if pc = 486 then some (.iaload, 487, 0, []) else none
         else
          if pc = 487 then some (.ifCond .eq 7, 490, 494, []) else none
      else
       if pc < 495 then
        if pc < 491 then
         if pc = 490 then some (.iconst 1, 491, 0, []) else none
        else
         if pc < 494 then
          if pc = 491 then some (.goto 4, 494, 495, []) else none
         else
          if pc = 494 then some (.iconst 0, 495, 0, []) else none
       else
        if pc < 499 then
         if pc < 498 then
          if pc = 495 then some (.invokevirtual 78, 498, 78, [2, 0, 0, 2, 11, 0, 0]) else none
         else
          if pc = 498 then some (.aload_n 2, 499, 2, []) else none
        else
         if pc < 500 then
          if pc = 499 then some (.aload_n 0, 500, 0, []) else none
         else
          if pc = 500 then some (.iload 4, 502, 4, []) else none
     else
      if pc < 512 then
       if pc < 505 then
        if pc < 503 then
         if pc = 502 then some (.iconst 1, 503, 0, []) else none
        else
         if pc < 504 then
          if pc = 503 then some (.iadd, 504, 0, []) else none
         else
          if pc = 504 then some (.iaload, 505, 0, []) else none
       else
        if pc < 508 then
         if pc = 505 then some (.ifCond .eq 7, 508, 512, []) else none
        else
         if pc < 509 then
          if pc = 508 then some (.iconst 1, 509, 0, []) else none
         else
          if pc = 509 then some (.goto 4, 512, 513, []) else none
      else
       if pc < 519 then
        if pc < 513 then
         if pc = 512 then some (.iconst 0, 513, 0, []) else none
        else
         if pc < 516 then
          if pc = 513 then some (.invokevirtual 82, 516, 119, [2, 0, 0, 2, 12, 0, 0]) else none
         else
          if pc = 516 then some (.if_icmp .eq 205, 519, 721, []) else none
       else
        if pc < 521 then
         if pc < 520 then
          if pc = 519 then some (.iconst 0, 520, 0, []) else none
         else
          if pc = 520 then some (.ireturn, 521, 2, []) else none
        else
         if pc < 522 then
          if pc = 521 then some (.aload_n 1, 522, 1, []) else none
         else
          if pc = 522 then some (.invokevirtual 83, 525, 79, [1, 0, 0, 5, 11, 0, 0]) else none
    else
     if pc < 545 then
      if pc < 535 then
       if pc < 532 then
        if pc < 526 then
         if pc = 525 then some (.aload_n 2, 526, 2, []) else none
        else
         if pc < 529 then
          if pc = 526 then some (.invokevirtual 86, 529, 121, [1, 0, 0, 6, 12, 0, 0]) else none
         else
          if pc = 529 then some (.if_icmp .eq 192, 532, 721, []) else none
       else
        if pc < 533 then
         if pc = 532 then some (.iconst 0, 533, 0, []) else none
        else
         if pc < 534 then
          if pc = 533 then some (.ireturn, 534, 2, []) else none
         else
          if pc = 534 then some (.aload_n 1, 535, 1, []) else none
      else
       if pc < 539 then
        if pc < 536 then
         if pc = 535 then some (.aload_n 0, 536, 0, []) else none
        else
         if pc < 538 then
          if pc = 536 then some (.iload 4, 538, 4, []) else none
         else
          if pc = 538 then some (.iconst 1, 539, 0, []) else none
       else
        if pc < 541 then
         if pc < 540 then
          if pc = 539 then some (.iadd, 540, 0, []) else none
         else
          if pc = 540 then some (.iaload, 541, 0, []) else none
        else
         if pc < 542 then
          if pc = 541 then some (.aload_n 3, 542, 3, []) else none
         else
          if pc = 542 then some (.invokestatic 87, 545, 159, [3, 1, 6, 4]) else none
     else
      if pc < 553 then
       if pc < 549 then
        if pc < 547 then
         if pc = 545 then some (.istore 5, 547, 5, []) else none
        else
         if pc < 548 then
          if pc = 547 then some (.aload_n 2, 548, 2, []) else none
         else
          if pc = 548 then some (.aload_n 0, 549, 0, []) else none
       else
        if pc < 551 then
         if pc = 549 then some (.iload 4, 551, 4, []) else none
        else
         if pc < 552 then
          if pc = 551 then some (.iconst 1, 552, 0, []) else none
         else
          if pc = 552 then some (.iadd, 553, 0, []) else none
      else
       if pc < 559 then
        if pc < 554 then
         if pc = 553 then some (.iaload, 554, 0, []) else none
        else
         if pc < 557 then
          if pc = 554 then some (.invokevirtual 89, 557, 142, [2, 0, 0, 6, 12, 0, 0]) else none
         else
          if pc = 557 then some (.istore 6, 559, 6, []) else none
       else
        if pc < 563 then
         if pc < 560 then
          if pc = 559 then some (.aload_n 2, 560, 2, []) else none
         else
          if pc = 560 then some (.invokevirtual 47, 563, 91, [1, 0, 0, 1, 12, 0, 0]) else none
        else
         if pc < 565 then
          if pc = 563 then some (.iload 5, 565, 5, []) else none
         else
          if pc = 565 then some (.if_icmp .eq 5, 568, 570, []) else none
  else
   if pc < 647 then
    if pc < 609 then
     if pc < 587 then
      if pc < 577 then
       if pc < 572 then
        if pc < 569 then
         if pc = 568 then some (.iconst 0, 569, 0, []) else none
        else
         if pc < 570 then
          if pc = 569 then some (.ireturn, 570, 2, []) else none
         else
          if pc = 570 then some (.iload 5, 572, 5, []) else none
       else
        if pc < 575 then
         if pc = 572 then some (.ifCond .ne 15, 575, 587, []) else none
        else
         if pc < 576 then
          if pc = 575 then some (.aload_n 3, 576, 3, []) else none
         else
          if pc = 576 then some (.iconst 0, 577, 0, []) else none
      else
       if pc < 581 then
        if pc < 578 then
         if pc = 577 then some (.laload, 578, 0, []) else none
        else
         if pc < 580 then
          if pc = 578 then some (.iload 6, 580, 6, []) else none
         else
          if pc = 580 then some (.i2l, 581, 0, []) else none
       else
        if pc < 585 then
         if pc < 582 then
          if pc = 581 then some (.lcmp, 582, 0, []) else none
         else
          if pc = 582 then some (.ifCond .eq 5, 585, 587, []) else none
        else
         if pc < 586 then
          if pc = 585 then some (.iconst 0, 586, 0, []) else none
         else
          if pc = 586 then some (.ireturn, 587, 2, []) else none
     else
      if pc < 601 then
       if pc < 594 then
        if pc < 590 then
         if pc = 587 then some (.goto 134, 590, 721, []) else none
        else
         if pc < 591 then
          if pc = 590 then some (.aload_n 1, 591, 1, []) else none
         else
          if pc = 591 then some (.invokevirtual 90, 594, 81, [1, 0, 0, 1, 11, 0, 0]) else none
       else
        if pc < 595 then
         if pc = 594 then some (.aload_n 2, 595, 2, []) else none
        else
         if pc < 598 then
          if pc = 595 then some (.invokevirtual 93, 598, 144, [1, 0, 0, 1, 12, 0, 0]) else none
         else
          if pc = 598 then some (.if_icmp .eq 123, 601, 721, []) else none
      else
       if pc < 604 then
        if pc < 602 then
         if pc = 601 then some (.iconst 0, 602, 0, []) else none
        else
         if pc < 603 then
          if pc = 602 then some (.ireturn, 603, 2, []) else none
         else
          if pc = 603 then some (.aload_n 1, 604, 1, []) else none
       else
        if pc < 607 then
         if pc < 605 then
          if pc = 604 then some (.aload_n 0, 605, 0, []) else none
         else
          if pc = 605 then some (.iload 4, 607, 4, []) else none
        else
         if pc < 608 then
          if pc = 607 then some (.iconst 1, 608, 0, []) else none
         else
          if pc = 608 then some (.iadd, 609, 0, []) else none
    else
     if pc < 629 then
      if pc < 618 then
       if pc < 614 then
        if pc < 610 then
         if pc = 609 then some (.iaload, 610, 0, []) else none
        else
         if pc < 613 then
          if pc = 610 then some (.invokevirtual 94, 613, 82, [2, 0, 0, 2, 11, 0, 0]) else none
         else
          if pc = 613 then some (.aload_n 2, 614, 2, []) else none
       else
        if pc < 615 then
         if pc = 614 then some (.aload_n 0, 615, 0, []) else none
        else
         if pc < 617 then
          if pc = 615 then some (.iload 4, 617, 4, []) else none
         else
          if pc = 617 then some (.iconst 1, 618, 0, []) else none
      else
       if pc < 623 then
        if pc < 619 then
         if pc = 618 then some (.iadd, 619, 0, []) else none
        else
         if pc < 620 then
          if pc = 619 then some (.iaload, 620, 0, []) else none
         else
          if pc = 620 then some (.invokevirtual 98, 623, 145, [2, 0, 0, 2, 12, 0, 0]) else none
       else
        if pc < 627 then
         if pc < 626 then
          if pc = 623 then some (.if_icmp .eq 98, 626, 721, []) else none
         else
          if pc = 626 then some (.iconst 0, 627, 0, []) else none
        else
         if pc < 628 then
          if pc = 627 then some (.ireturn, 628, 2, []) else none
         else
          if pc = 628 then some (.aload_n 1, 629, 1, []) else none
     else
      if pc < 636 then
       if pc < 633 then
        if pc < 630 then
         if pc = 629 then some (.aload_n 0, 630, 0, []) else none
        else
         if pc < 632 then
          if pc = 630 then some (.iload 4, 632, 4, []) else none
         else
          if pc = 632 then some (.iconst 1, 633, 0, []) else none
       else
        if pc < 634 then
         if pc = 633 then some (.iadd, 634, 0, []) else none
        else
         if pc < 635 then
          if pc = 634 then some (.iaload, 635, 0, []) else none
         else
          if pc = 635 then some (.aload_n 0, 636, 0, []) else none
      else
       if pc < 640 then
        if pc < 638 then
         if pc = 636 then some (.iload 4, 638, 4, []) else none
        else
         if pc < 639 then
          if pc = 638 then some (.iconst 2, 639, 0, []) else none
         else
          if pc = 639 then some (.iadd, 640, 0, []) else none
       else
        if pc < 642 then
         if pc < 641 then
          if pc = 640 then some (.iaload, 641, 0, []) else none
         else
          if pc = 641 then some (.aload_n 3, 642, 3, []) else none
        else
         if pc < 645 then
          if pc = 642 then some (.invokestatic 99, 645, 160, [4, 1, 6, 5]) else none
         else
          if pc = 645 then some (.istore 5, 647, 5, []) else none
   else
    if pc < 687 then
     if pc < 665 then
      if pc < 654 then
       if pc < 651 then
        if pc < 648 then
         if pc = 647 then some (.aload_n 2, 648, 2, []) else none
        else
         if pc < 649 then
          if pc = 648 then some (.aload_n 0, 649, 0, []) else none
         else
          if pc = 649 then some (.iload 4, 651, 4, []) else none
       else
        if pc < 652 then
         if pc = 651 then some (.iconst 1, 652, 0, []) else none
        else
         if pc < 653 then
          if pc = 652 then some (.iadd, 653, 0, []) else none
         else
          if pc = 653 then some (.iaload, 654, 0, []) else none
      else
       if pc < 658 then
        if pc < 655 then
         if pc = 654 then some (.aload_n 0, 655, 0, []) else none
        else
         if pc < 657 then
          if pc = 655 then some (.iload 4, 657, 4, []) else none
         else
          if pc = 657 then some (.iconst 2, 658, 0, []) else none
       else
        if pc < 660 then
         if pc < 659 then
          if pc = 658 then some (.iadd, 659, 0, []) else none
         else
          if pc = 659 then some (.iaload, 660, 0, []) else none
        else
         if pc < 663 then
          if pc = 660 then some (.invokevirtual 102, 663, 146, [3, 0, 0, 3, 12, 0, 0]) else none
         else
          if pc = 663 then some (.istore 6, 665, 6, []) else none
     else
      if pc < 676 then
       if pc < 671 then
        if pc < 666 then
         if pc = 665 then some (.aload_n 2, 666, 2, []) else none
        else
         if pc < 669 then
          if pc = 666 then some (.invokevirtual 47, 669, 91, [1, 0, 0, 1, 12, 0, 0]) else none
         else
          if pc = 669 then some (.iload 5, 671, 5, []) else none
       else
        if pc < 674 then
         if pc = 671 then some (.if_icmp .eq 5, 674, 676, []) else none
        else
         if pc < 675 then
          if pc = 674 then some (.iconst 0, 675, 0, []) else none
         else
          if pc = 675 then some (.ireturn, 676, 2, []) else none
      else
       if pc < 682 then
        if pc < 678 then
         if pc = 676 then some (.iload 5, 678, 5, []) else none
        else
         if pc < 681 then
          if pc = 678 then some (.ifCond .ne 15, 681, 693, []) else none
         else
          if pc = 681 then some (.aload_n 3, 682, 3, []) else none
       else
        if pc < 684 then
         if pc < 683 then
          if pc = 682 then some (.iconst 0, 683, 0, []) else none
         else
          if pc = 683 then some (.laload, 684, 0, []) else none
        else
         if pc < 686 then
          if pc = 684 then some (.iload 6, 686, 6, []) else none
         else
          if pc = 686 then some (.i2l, 687, 0, []) else none
    else
     if pc < 707 then
      if pc < 697 then
       if pc < 692 then
        if pc < 688 then
         if pc = 687 then some (.lcmp, 688, 0, []) else none
        else
         if pc < 691 then
          if pc = 688 then some (.ifCond .eq 5, 691, 693, []) else none
         else
          if pc = 691 then some (.iconst 0, 692, 0, []) else none
       else
        if pc < 693 then
         if pc = 692 then some (.ireturn, 693, 2, []) else none
        else
         if pc < 696 then
          if pc = 693 then some (.goto 28, 696, 721, []) else none
         else
          if pc = 696 then some (.aload_n 1, 697, 1, []) else none
      else
       if pc < 701 then
        if pc < 698 then
         if pc = 697 then some (.aload_n 0, 698, 0, []) else none
        else
         if pc < 700 then
          if pc = 698 then some (.iload 4, 700, 4, []) else none
         else
          if pc = 700 then some (.iconst 1, 701, 0, []) else none
       else
        if pc < 703 then
         if pc < 702 then
          if pc = 701 then some (.iadd, 702, 0, []) else none
         else
          if pc = 702 then some (.iaload, 703, 0, []) else none
        else
         if pc < 706 then
          if pc = 703 then some (.invokevirtual 103, 706, 84, [2, 0, 0, 2, 11, 0, 0]) else none
         else
          if pc = 706 then some (.aload_n 2, 707, 2, []) else none
     else
      if pc < 719 then
       if pc < 711 then
        if pc < 708 then
         if pc = 707 then some (.aload_n 0, 708, 0, []) else none
        else
         if pc < 710 then
          if pc = 708 then some (.iload 4, 710, 4, []) else none
         else
          if pc = 710 then some (.iconst 1, 711, 0, []) else none
       else
        if pc < 713 then
         if pc < 712 then
          if pc = 711 then some (.iadd, 712, 0, []) else none
         else
          if pc = 712 then some (.iaload, 713, 0, []) else none
        else
         if pc < 716 then
          if pc = 713 then some (.invokevirtual 106, 716, 147, [2, 0, 0, 4, 12, 0, 0]) else none
         else
          if pc = 716 then some (.if_icmp .eq 5, 719, 721, []) else none
      else
       if pc < 724 then
        if pc < 720 then
         if pc = 719 then some (.iconst 0, 720, 0, []) else none
        else
         if pc < 721 then
          if pc = 720 then some (.ireturn, 721, 2, []) else none
         else
          if pc = 721 then some (.iinc 4 6, 724, 4, []) else none
       else
        if pc < 728 then
         if pc < 727 then
          if pc = 724 then some (.goto (-701), 727, 100023, []) else none
         else
          if pc = 727 then some (.iconst 1, 728, 0, []) else none
        else
         if pc < 100023 then
          if pc = 728 then some (.ireturn, 729, 2, []) else none
         else
          if pc = 100023 then some (.iload 4, 25, 4, []) else none

def mg (L pc : Nat) (e : Option mE) : Option mE := if pc % 100000 < L ∧ pc < 200000 then e else none
def mcs : List (Nat → Option mE) := [fun pc => mg 15 pc (mc_X0_init pc), fun pc => mg 149 pc (mc_X0_isName pc), fun pc => mg 80 pc (mc_X0_orderTo pc), fun pc => mg 42 pc (mc_X1_init pc), fun pc => mg 208 pc (mc_X1_read pc), fun pc => mg 74 pc (mc_X1_addPart pc), fun pc => mg 69 pc (mc_X1_kindOf pc), fun pc => mg 178 pc (mc_X1_kindOfMinus pc), fun pc => mg 70 pc (mc_X1_readOperand pc), fun pc => mg 76 pc (mc_X1_readKind pc), fun pc => mg 163 pc (mc_X1_readNumber pc), fun pc => mg 53 pc (mc_X2_init pc), fun pc => mg 26 pc (mc_X2_begin pc), fun pc => mg 136 pc (mc_X2_search pc), fun pc => mg 137 pc (mc_X2_visit pc), fun pc => mg 185 pc (mc_X2_visitBelow pc), fun pc => mg 190 pc (mc_X2_ask pc), fun pc => mg 171 pc (mc_X2_isTrue pc), fun pc => mg 73 pc (mc_X2_compares pc), fun pc => mg 45 pc (mc_X2_printPath pc), fun pc => mg 10 pc (mc_X3_init pc), fun pc => mg 263 pc (mc_X3_matches pc), fun pc => mg 14 pc (mc_X3_fromLeastOn pc), fun pc => mg 86 pc (mc_X3_closing pc), fun pc => mg 155 pc (mc_X3_isInSet pc), fun pc => mg 29 pc (mc_X4_init pc), fun pc => mg 30 pc (mc_X4_charactersIn pc), fun pc => mg 56 pc (mc_X4_add pc), fun pc => mg 119 pc (mc_X4_split pc), fun pc => mg 29 pc (mc_X4_start pc), fun pc => mg 29 pc (mc_X4_end pc), fun pc => mg 12 pc (mc_X4_wordLength pc), fun pc => mg 30 pc (mc_X4_letter pc), fun pc => mg 48 pc (mc_X4_is pc), fun pc => mg 44 pc (mc_X4_beginsWithPath pc), fun pc => mg 38 pc (mc_X4_lastStepEnd pc), fun pc => mg 38 pc (mc_X4_lastStepStart pc), fun pc => mg 34 pc (mc_X4_lastStep pc), fun pc => mg 63 pc (mc_X5_init pc), fun pc => mg 58 pc (mc_X5_entry pc), fun pc => mg 95 pc (mc_X5_insert pc), fun pc => mg 82 pc (mc_X5_remove pc), fun pc => mg 14 pc (mc_X6_init pc), fun pc => mg 73 pc (mc_X6_writeLine pc), fun pc => mg 8 pc (mc_X6_beginAtBack pc), fun pc => mg 60 pc (mc_X6_putInFront pc), fun pc => mg 61 pc (mc_X6_moveToFront pc), fun pc => mg 53 pc (mc_X7_init pc), fun pc => mg 21 pc (mc_X7_at pc), fun pc => mg 23 pc (mc_X7_isDirectory pc), fun pc => mg 44 pc (mc_X7_add pc), fun pc => mg 68 pc (mc_X7_join pc), fun pc => mg 71 pc (mc_X7_part pc), fun pc => mg 37 pc (mc_X8_init pc), fun pc => mg 11 pc (mc_X8_begin pc), fun pc => mg 41 pc (mc_X8_clearLevel pc), fun pc => mg 42 pc (mc_X8_isOpen pc), fun pc => mg 30 pc (mc_X8_value pc), fun pc => mg 45 pc (mc_X8_join pc), fun pc => mg 27 pc (mc_X8_turn pc), fun pc => mg 49 pc (mc_X8_nextAnd pc), fun pc => mg 30 pc (mc_X8_enter pc), fun pc => mg 28 pc (mc_X8_leave pc), fun pc => mg 19 pc (mc_X9_init pc), fun pc => mg 185 pc (mc_X9_along pc), fun pc => mg 43 pc (mc_X9_putInFront pc), fun pc => mg 226 pc (mc_X9_takeStep pc), fun pc => mg 58 pc (mc_X9_dotsAlone pc), fun pc => mg 56 pc (mc_X9_follow pc), fun pc => mg 100 pc (mc_X10_init pc), fun pc => mg 110 pc (mc_X10_type pc), fun pc => mg 25 pc (mc_X10_erase pc), fun pc => mg 81 pc (mc_X10_make pc), fun pc => mg 100 pc (mc_X10_link pc), fun pc => mg 59 pc (mc_X10_tie pc), fun pc => mg 114 pc (mc_X10_drop pc), fun pc => mg 70 pc (mc_X10_bits pc), fun pc => mg 58 pc (mc_X10_go pc), fun pc => mg 7 pc (mc_X10_node pc), fun pc => mg 131 pc (mc_X10_real pc), fun pc => mg 184 pc (mc_X10_find pc), fun pc => mg 5 pc (mc_X10_place pc), fun pc => mg 37 pc (mc_X10_output pc), fun pc => mg 112 pc (mc_X10_tell pc), fun pc => mg 54 pc (mc_X10_count pc), fun pc => mg 16 pc (mc_X10_isOutOfBounds pc), fun pc => mg 46 pc (mc_X10_nodeOfWord pc), fun pc => mg 209 pc (mc_X10_newPlace pc), fun pc => mg 39 pc (mc_X10_settle pc), fun pc => mg 86 pc (mc_X10_lookUpNewer pc), fun pc => mg 311 pc (mc_X11_init pc), fun pc => mg 5 pc (mc_X11_thrown pc), fun pc => mg 15 pc (mc_X11_refused pc), fun pc => mg 43 pc (mc_X11_put pc), fun pc => mg 126 pc (mc_X11_type pc), fun pc => mg 17 pc (mc_X11_erase pc), fun pc => mg 91 pc (mc_X11_cut pc), fun pc => mg 14 pc (mc_X11_wordSize pc), fun pc => mg 63 pc (mc_X11_isWord pc), fun pc => mg 48 pc (mc_X11_isSign pc), fun pc => mg 118 pc (mc_X11_isName pc), fun pc => mg 72 pc (mc_X11_compare pc), fun pc => mg 48 pc (mc_X11_nameAt pc), fun pc => mg 79 pc (mc_X11_addName pc), fun pc => mg 94 pc (mc_X11_removeName pc), fun pc => mg 38 pc (mc_X11_layWay pc), fun pc => mg 124 pc (mc_X11_layText pc), fun pc => mg 372 pc (mc_X11_walk pc), fun pc => mg 33 pc (mc_X11_walkWord pc), fun pc => mg 231 pc (mc_X11_newPlace pc), fun pc => mg 32 pc (mc_X11_freeNode pc), fun pc => mg 102 pc (mc_X11_makeNode pc), fun pc => mg 16 pc (mc_X11_isIn pc), fun pc => mg 76 pc (mc_X11_make pc), fun pc => mg 129 pc (mc_X11_link pc), fun pc => mg 77 pc (mc_X11_tie pc), fun pc => mg 117 pc (mc_X11_drop pc), fun pc => mg 69 pc (mc_X11_bits pc), fun pc => mg 55 pc (mc_X11_go pc), fun pc => mg 16 pc (mc_X11_node pc), fun pc => mg 63 pc (mc_X11_entryOf pc), fun pc => mg 174 pc (mc_X11_real pc), fun pc => mg 21 pc (mc_X11_write pc), fun pc => mg 310 pc (mc_X11_testOf pc), fun pc => mg 90 pc (mc_X11_same pc), fun pc => mg 124 pc (mc_X11_isNumber pc), fun pc => mg 47 pc (mc_X11_addPart pc), fun pc => mg 566 pc (mc_X11_parse pc), fun pc => mg 67 pc (mc_X11_mayFollow pc), fun pc => mg 50 pc (mc_X11_applyNots pc), fun pc => mg 33 pc (mc_X11_applyTwo pc), fun pc => mg 114 pc (mc_X11_setEnd pc), fun pc => mg 174 pc (mc_X11_inSet pc), fun pc => mg 280 pc (mc_X11_matches pc), fun pc => mg 132 pc (mc_X11_compares pc), fun pc => mg 73 pc (mc_X11_print pc), fun pc => mg 199 pc (mc_X11_test pc), fun pc => mg 208 pc (mc_X11_ask pc), fun pc => mg 115 pc (mc_X11_nextName pc), fun pc => mg 337 pc (mc_X11_goThrough pc), fun pc => mg 101 pc (mc_X11_enter pc), fun pc => mg 58 pc (mc_X11_lookUp pc), fun pc => mg 264 pc (mc_X11_find pc), fun pc => mg 88 pc (mc_X11_nameTop pc), fun pc => mg 10 pc (mc_X11_place pc), fun pc => mg 29 pc (mc_X11_output pc), fun pc => mg 161 pc (mc_X11_tell pc), fun pc => mg 72 pc (mc_X11_count pc), fun pc => mg 11 pc (mc_J0_length pc), fun pc => mg 25 pc (mc_J0_charAt pc), fun pc => mg 15 pc (mc_J0_coder pc), fun pc => mg 19 pc (mc_J0_isLatin1 pc), fun pc => mg 10 pc (mc_J0_checkIndex pc), fun pc => mg 15 pc (mc_J1_charAt pc), fun pc => mg 18 pc (mc_J3_checkIndex pc), fun pc => mg 25 pc (mc_L_type pc), fun pc => mg 21 pc (mc_L_make pc), fun pc => mg 17 pc (mc_L_link pc), fun pc => mg 17 pc (mc_L_bits pc), fun pc => mg 17 pc (mc_L_find pc), fun pc => mg 19 pc (mc_L_tell pc), fun pc => mg 729 pc (mc_L_law pc)]
def mcode (k pc : Nat) : Option mE := match mcs[k]? with
  | some f => f pc
  | none => none
theorem mk_X0_init (pc : Nat) : mcode 0 pc = mg 15 pc (mc_X0_init pc) := rfl
theorem mk_X0_isName (pc : Nat) : mcode 1 pc = mg 149 pc (mc_X0_isName pc) := rfl
theorem mk_X0_orderTo (pc : Nat) : mcode 2 pc = mg 80 pc (mc_X0_orderTo pc) := rfl
theorem mk_X1_init (pc : Nat) : mcode 3 pc = mg 42 pc (mc_X1_init pc) := rfl
theorem mk_X1_read (pc : Nat) : mcode 4 pc = mg 208 pc (mc_X1_read pc) := rfl
theorem mk_X1_addPart (pc : Nat) : mcode 5 pc = mg 74 pc (mc_X1_addPart pc) := rfl
theorem mk_X1_kindOf (pc : Nat) : mcode 6 pc = mg 69 pc (mc_X1_kindOf pc) := rfl
theorem mk_X1_kindOfMinus (pc : Nat) : mcode 7 pc = mg 178 pc (mc_X1_kindOfMinus pc) := rfl
theorem mk_X1_readOperand (pc : Nat) : mcode 8 pc = mg 70 pc (mc_X1_readOperand pc) := rfl
theorem mk_X1_readKind (pc : Nat) : mcode 9 pc = mg 76 pc (mc_X1_readKind pc) := rfl
theorem mk_X1_readNumber (pc : Nat) : mcode 10 pc = mg 163 pc (mc_X1_readNumber pc) := rfl
theorem mk_X2_init (pc : Nat) : mcode 11 pc = mg 53 pc (mc_X2_init pc) := rfl
theorem mk_X2_begin (pc : Nat) : mcode 12 pc = mg 26 pc (mc_X2_begin pc) := rfl
theorem mk_X2_search (pc : Nat) : mcode 13 pc = mg 136 pc (mc_X2_search pc) := rfl
theorem mk_X2_visit (pc : Nat) : mcode 14 pc = mg 137 pc (mc_X2_visit pc) := rfl
theorem mk_X2_visitBelow (pc : Nat) : mcode 15 pc = mg 185 pc (mc_X2_visitBelow pc) := rfl
theorem mk_X2_ask (pc : Nat) : mcode 16 pc = mg 190 pc (mc_X2_ask pc) := rfl
theorem mk_X2_isTrue (pc : Nat) : mcode 17 pc = mg 171 pc (mc_X2_isTrue pc) := rfl
theorem mk_X2_compares (pc : Nat) : mcode 18 pc = mg 73 pc (mc_X2_compares pc) := rfl
theorem mk_X2_printPath (pc : Nat) : mcode 19 pc = mg 45 pc (mc_X2_printPath pc) := rfl
theorem mk_X3_init (pc : Nat) : mcode 20 pc = mg 10 pc (mc_X3_init pc) := rfl
theorem mk_X3_matches (pc : Nat) : mcode 21 pc = mg 263 pc (mc_X3_matches pc) := rfl
theorem mk_X3_fromLeastOn (pc : Nat) : mcode 22 pc = mg 14 pc (mc_X3_fromLeastOn pc) := rfl
theorem mk_X3_closing (pc : Nat) : mcode 23 pc = mg 86 pc (mc_X3_closing pc) := rfl
theorem mk_X3_isInSet (pc : Nat) : mcode 24 pc = mg 155 pc (mc_X3_isInSet pc) := rfl
theorem mk_X4_init (pc : Nat) : mcode 25 pc = mg 29 pc (mc_X4_init pc) := rfl
theorem mk_X4_charactersIn (pc : Nat) : mcode 26 pc = mg 30 pc (mc_X4_charactersIn pc) := rfl
theorem mk_X4_add (pc : Nat) : mcode 27 pc = mg 56 pc (mc_X4_add pc) := rfl
theorem mk_X4_split (pc : Nat) : mcode 28 pc = mg 119 pc (mc_X4_split pc) := rfl
theorem mk_X4_start (pc : Nat) : mcode 29 pc = mg 29 pc (mc_X4_start pc) := rfl
theorem mk_X4_end (pc : Nat) : mcode 30 pc = mg 29 pc (mc_X4_end pc) := rfl
theorem mk_X4_wordLength (pc : Nat) : mcode 31 pc = mg 12 pc (mc_X4_wordLength pc) := rfl
theorem mk_X4_letter (pc : Nat) : mcode 32 pc = mg 30 pc (mc_X4_letter pc) := rfl
theorem mk_X4_is (pc : Nat) : mcode 33 pc = mg 48 pc (mc_X4_is pc) := rfl
theorem mk_X4_beginsWithPath (pc : Nat) : mcode 34 pc = mg 44 pc (mc_X4_beginsWithPath pc) := rfl
theorem mk_X4_lastStepEnd (pc : Nat) : mcode 35 pc = mg 38 pc (mc_X4_lastStepEnd pc) := rfl
theorem mk_X4_lastStepStart (pc : Nat) : mcode 36 pc = mg 38 pc (mc_X4_lastStepStart pc) := rfl
theorem mk_X4_lastStep (pc : Nat) : mcode 37 pc = mg 34 pc (mc_X4_lastStep pc) := rfl
theorem mk_X5_init (pc : Nat) : mcode 38 pc = mg 63 pc (mc_X5_init pc) := rfl
theorem mk_X5_entry (pc : Nat) : mcode 39 pc = mg 58 pc (mc_X5_entry pc) := rfl
theorem mk_X5_insert (pc : Nat) : mcode 40 pc = mg 95 pc (mc_X5_insert pc) := rfl
theorem mk_X5_remove (pc : Nat) : mcode 41 pc = mg 82 pc (mc_X5_remove pc) := rfl
theorem mk_X6_init (pc : Nat) : mcode 42 pc = mg 14 pc (mc_X6_init pc) := rfl
theorem mk_X6_writeLine (pc : Nat) : mcode 43 pc = mg 73 pc (mc_X6_writeLine pc) := rfl
theorem mk_X6_beginAtBack (pc : Nat) : mcode 44 pc = mg 8 pc (mc_X6_beginAtBack pc) := rfl
theorem mk_X6_putInFront (pc : Nat) : mcode 45 pc = mg 60 pc (mc_X6_putInFront pc) := rfl
theorem mk_X6_moveToFront (pc : Nat) : mcode 46 pc = mg 61 pc (mc_X6_moveToFront pc) := rfl
theorem mk_X7_init (pc : Nat) : mcode 47 pc = mg 53 pc (mc_X7_init pc) := rfl
theorem mk_X7_at (pc : Nat) : mcode 48 pc = mg 21 pc (mc_X7_at pc) := rfl
theorem mk_X7_isDirectory (pc : Nat) : mcode 49 pc = mg 23 pc (mc_X7_isDirectory pc) := rfl
theorem mk_X7_add (pc : Nat) : mcode 50 pc = mg 44 pc (mc_X7_add pc) := rfl
theorem mk_X7_join (pc : Nat) : mcode 51 pc = mg 68 pc (mc_X7_join pc) := rfl
theorem mk_X7_part (pc : Nat) : mcode 52 pc = mg 71 pc (mc_X7_part pc) := rfl
theorem mk_X8_init (pc : Nat) : mcode 53 pc = mg 37 pc (mc_X8_init pc) := rfl
theorem mk_X8_begin (pc : Nat) : mcode 54 pc = mg 11 pc (mc_X8_begin pc) := rfl
theorem mk_X8_clearLevel (pc : Nat) : mcode 55 pc = mg 41 pc (mc_X8_clearLevel pc) := rfl
theorem mk_X8_isOpen (pc : Nat) : mcode 56 pc = mg 42 pc (mc_X8_isOpen pc) := rfl
theorem mk_X8_value (pc : Nat) : mcode 57 pc = mg 30 pc (mc_X8_value pc) := rfl
theorem mk_X8_join (pc : Nat) : mcode 58 pc = mg 45 pc (mc_X8_join pc) := rfl
theorem mk_X8_turn (pc : Nat) : mcode 59 pc = mg 27 pc (mc_X8_turn pc) := rfl
theorem mk_X8_nextAnd (pc : Nat) : mcode 60 pc = mg 49 pc (mc_X8_nextAnd pc) := rfl
theorem mk_X8_enter (pc : Nat) : mcode 61 pc = mg 30 pc (mc_X8_enter pc) := rfl
theorem mk_X8_leave (pc : Nat) : mcode 62 pc = mg 28 pc (mc_X8_leave pc) := rfl
theorem mk_X9_init (pc : Nat) : mcode 63 pc = mg 19 pc (mc_X9_init pc) := rfl
theorem mk_X9_along (pc : Nat) : mcode 64 pc = mg 185 pc (mc_X9_along pc) := rfl
theorem mk_X9_putInFront (pc : Nat) : mcode 65 pc = mg 43 pc (mc_X9_putInFront pc) := rfl
theorem mk_X9_takeStep (pc : Nat) : mcode 66 pc = mg 226 pc (mc_X9_takeStep pc) := rfl
theorem mk_X9_dotsAlone (pc : Nat) : mcode 67 pc = mg 58 pc (mc_X9_dotsAlone pc) := rfl
theorem mk_X9_follow (pc : Nat) : mcode 68 pc = mg 56 pc (mc_X9_follow pc) := rfl
theorem mk_X10_init (pc : Nat) : mcode 69 pc = mg 100 pc (mc_X10_init pc) := rfl
theorem mk_X10_type (pc : Nat) : mcode 70 pc = mg 110 pc (mc_X10_type pc) := rfl
theorem mk_X10_erase (pc : Nat) : mcode 71 pc = mg 25 pc (mc_X10_erase pc) := rfl
theorem mk_X10_make (pc : Nat) : mcode 72 pc = mg 81 pc (mc_X10_make pc) := rfl
theorem mk_X10_link (pc : Nat) : mcode 73 pc = mg 100 pc (mc_X10_link pc) := rfl
theorem mk_X10_tie (pc : Nat) : mcode 74 pc = mg 59 pc (mc_X10_tie pc) := rfl
theorem mk_X10_drop (pc : Nat) : mcode 75 pc = mg 114 pc (mc_X10_drop pc) := rfl
theorem mk_X10_bits (pc : Nat) : mcode 76 pc = mg 70 pc (mc_X10_bits pc) := rfl
theorem mk_X10_go (pc : Nat) : mcode 77 pc = mg 58 pc (mc_X10_go pc) := rfl
theorem mk_X10_node (pc : Nat) : mcode 78 pc = mg 7 pc (mc_X10_node pc) := rfl
theorem mk_X10_real (pc : Nat) : mcode 79 pc = mg 131 pc (mc_X10_real pc) := rfl
theorem mk_X10_find (pc : Nat) : mcode 80 pc = mg 184 pc (mc_X10_find pc) := rfl
theorem mk_X10_place (pc : Nat) : mcode 81 pc = mg 5 pc (mc_X10_place pc) := rfl
theorem mk_X10_output (pc : Nat) : mcode 82 pc = mg 37 pc (mc_X10_output pc) := rfl
theorem mk_X10_tell (pc : Nat) : mcode 83 pc = mg 112 pc (mc_X10_tell pc) := rfl
theorem mk_X10_count (pc : Nat) : mcode 84 pc = mg 54 pc (mc_X10_count pc) := rfl
theorem mk_X10_isOutOfBounds (pc : Nat) : mcode 85 pc = mg 16 pc (mc_X10_isOutOfBounds pc) := rfl
theorem mk_X10_nodeOfWord (pc : Nat) : mcode 86 pc = mg 46 pc (mc_X10_nodeOfWord pc) := rfl
theorem mk_X10_newPlace (pc : Nat) : mcode 87 pc = mg 209 pc (mc_X10_newPlace pc) := rfl
theorem mk_X10_settle (pc : Nat) : mcode 88 pc = mg 39 pc (mc_X10_settle pc) := rfl
theorem mk_X10_lookUpNewer (pc : Nat) : mcode 89 pc = mg 86 pc (mc_X10_lookUpNewer pc) := rfl
theorem mk_X11_init (pc : Nat) : mcode 90 pc = mg 311 pc (mc_X11_init pc) := rfl
theorem mk_X11_thrown (pc : Nat) : mcode 91 pc = mg 5 pc (mc_X11_thrown pc) := rfl
theorem mk_X11_refused (pc : Nat) : mcode 92 pc = mg 15 pc (mc_X11_refused pc) := rfl
theorem mk_X11_put (pc : Nat) : mcode 93 pc = mg 43 pc (mc_X11_put pc) := rfl
theorem mk_X11_type (pc : Nat) : mcode 94 pc = mg 126 pc (mc_X11_type pc) := rfl
theorem mk_X11_erase (pc : Nat) : mcode 95 pc = mg 17 pc (mc_X11_erase pc) := rfl
theorem mk_X11_cut (pc : Nat) : mcode 96 pc = mg 91 pc (mc_X11_cut pc) := rfl
theorem mk_X11_wordSize (pc : Nat) : mcode 97 pc = mg 14 pc (mc_X11_wordSize pc) := rfl
theorem mk_X11_isWord (pc : Nat) : mcode 98 pc = mg 63 pc (mc_X11_isWord pc) := rfl
theorem mk_X11_isSign (pc : Nat) : mcode 99 pc = mg 48 pc (mc_X11_isSign pc) := rfl
theorem mk_X11_isName (pc : Nat) : mcode 100 pc = mg 118 pc (mc_X11_isName pc) := rfl
theorem mk_X11_compare (pc : Nat) : mcode 101 pc = mg 72 pc (mc_X11_compare pc) := rfl
theorem mk_X11_nameAt (pc : Nat) : mcode 102 pc = mg 48 pc (mc_X11_nameAt pc) := rfl
theorem mk_X11_addName (pc : Nat) : mcode 103 pc = mg 79 pc (mc_X11_addName pc) := rfl
theorem mk_X11_removeName (pc : Nat) : mcode 104 pc = mg 94 pc (mc_X11_removeName pc) := rfl
theorem mk_X11_layWay (pc : Nat) : mcode 105 pc = mg 38 pc (mc_X11_layWay pc) := rfl
theorem mk_X11_layText (pc : Nat) : mcode 106 pc = mg 124 pc (mc_X11_layText pc) := rfl
theorem mk_X11_walk (pc : Nat) : mcode 107 pc = mg 372 pc (mc_X11_walk pc) := rfl
theorem mk_X11_walkWord (pc : Nat) : mcode 108 pc = mg 33 pc (mc_X11_walkWord pc) := rfl
theorem mk_X11_newPlace (pc : Nat) : mcode 109 pc = mg 231 pc (mc_X11_newPlace pc) := rfl
theorem mk_X11_freeNode (pc : Nat) : mcode 110 pc = mg 32 pc (mc_X11_freeNode pc) := rfl
theorem mk_X11_makeNode (pc : Nat) : mcode 111 pc = mg 102 pc (mc_X11_makeNode pc) := rfl
theorem mk_X11_isIn (pc : Nat) : mcode 112 pc = mg 16 pc (mc_X11_isIn pc) := rfl
theorem mk_X11_make (pc : Nat) : mcode 113 pc = mg 76 pc (mc_X11_make pc) := rfl
theorem mk_X11_link (pc : Nat) : mcode 114 pc = mg 129 pc (mc_X11_link pc) := rfl
theorem mk_X11_tie (pc : Nat) : mcode 115 pc = mg 77 pc (mc_X11_tie pc) := rfl
theorem mk_X11_drop (pc : Nat) : mcode 116 pc = mg 117 pc (mc_X11_drop pc) := rfl
theorem mk_X11_bits (pc : Nat) : mcode 117 pc = mg 69 pc (mc_X11_bits pc) := rfl
theorem mk_X11_go (pc : Nat) : mcode 118 pc = mg 55 pc (mc_X11_go pc) := rfl
theorem mk_X11_node (pc : Nat) : mcode 119 pc = mg 16 pc (mc_X11_node pc) := rfl
theorem mk_X11_entryOf (pc : Nat) : mcode 120 pc = mg 63 pc (mc_X11_entryOf pc) := rfl
theorem mk_X11_real (pc : Nat) : mcode 121 pc = mg 174 pc (mc_X11_real pc) := rfl
theorem mk_X11_write (pc : Nat) : mcode 122 pc = mg 21 pc (mc_X11_write pc) := rfl
theorem mk_X11_testOf (pc : Nat) : mcode 123 pc = mg 310 pc (mc_X11_testOf pc) := rfl
theorem mk_X11_same (pc : Nat) : mcode 124 pc = mg 90 pc (mc_X11_same pc) := rfl
theorem mk_X11_isNumber (pc : Nat) : mcode 125 pc = mg 124 pc (mc_X11_isNumber pc) := rfl
theorem mk_X11_addPart (pc : Nat) : mcode 126 pc = mg 47 pc (mc_X11_addPart pc) := rfl
theorem mk_X11_parse (pc : Nat) : mcode 127 pc = mg 566 pc (mc_X11_parse pc) := rfl
theorem mk_X11_mayFollow (pc : Nat) : mcode 128 pc = mg 67 pc (mc_X11_mayFollow pc) := rfl
theorem mk_X11_applyNots (pc : Nat) : mcode 129 pc = mg 50 pc (mc_X11_applyNots pc) := rfl
theorem mk_X11_applyTwo (pc : Nat) : mcode 130 pc = mg 33 pc (mc_X11_applyTwo pc) := rfl
theorem mk_X11_setEnd (pc : Nat) : mcode 131 pc = mg 114 pc (mc_X11_setEnd pc) := rfl
theorem mk_X11_inSet (pc : Nat) : mcode 132 pc = mg 174 pc (mc_X11_inSet pc) := rfl
theorem mk_X11_matches (pc : Nat) : mcode 133 pc = mg 280 pc (mc_X11_matches pc) := rfl
theorem mk_X11_compares (pc : Nat) : mcode 134 pc = mg 132 pc (mc_X11_compares pc) := rfl
theorem mk_X11_print (pc : Nat) : mcode 135 pc = mg 73 pc (mc_X11_print pc) := rfl
theorem mk_X11_test (pc : Nat) : mcode 136 pc = mg 199 pc (mc_X11_test pc) := rfl
theorem mk_X11_ask (pc : Nat) : mcode 137 pc = mg 208 pc (mc_X11_ask pc) := rfl
theorem mk_X11_nextName (pc : Nat) : mcode 138 pc = mg 115 pc (mc_X11_nextName pc) := rfl
theorem mk_X11_goThrough (pc : Nat) : mcode 139 pc = mg 337 pc (mc_X11_goThrough pc) := rfl
theorem mk_X11_enter (pc : Nat) : mcode 140 pc = mg 101 pc (mc_X11_enter pc) := rfl
theorem mk_X11_lookUp (pc : Nat) : mcode 141 pc = mg 58 pc (mc_X11_lookUp pc) := rfl
theorem mk_X11_find (pc : Nat) : mcode 142 pc = mg 264 pc (mc_X11_find pc) := rfl
theorem mk_X11_nameTop (pc : Nat) : mcode 143 pc = mg 88 pc (mc_X11_nameTop pc) := rfl
theorem mk_X11_place (pc : Nat) : mcode 144 pc = mg 10 pc (mc_X11_place pc) := rfl
theorem mk_X11_output (pc : Nat) : mcode 145 pc = mg 29 pc (mc_X11_output pc) := rfl
theorem mk_X11_tell (pc : Nat) : mcode 146 pc = mg 161 pc (mc_X11_tell pc) := rfl
theorem mk_X11_count (pc : Nat) : mcode 147 pc = mg 72 pc (mc_X11_count pc) := rfl
theorem mk_J0_length (pc : Nat) : mcode 148 pc = mg 11 pc (mc_J0_length pc) := rfl
theorem mk_J0_charAt (pc : Nat) : mcode 149 pc = mg 25 pc (mc_J0_charAt pc) := rfl
theorem mk_J0_coder (pc : Nat) : mcode 150 pc = mg 15 pc (mc_J0_coder pc) := rfl
theorem mk_J0_isLatin1 (pc : Nat) : mcode 151 pc = mg 19 pc (mc_J0_isLatin1 pc) := rfl
theorem mk_J0_checkIndex (pc : Nat) : mcode 152 pc = mg 10 pc (mc_J0_checkIndex pc) := rfl
theorem mk_J1_charAt (pc : Nat) : mcode 153 pc = mg 15 pc (mc_J1_charAt pc) := rfl
theorem mk_J3_checkIndex (pc : Nat) : mcode 154 pc = mg 18 pc (mc_J3_checkIndex pc) := rfl
theorem mk_L_type (pc : Nat) : mcode 155 pc = mg 25 pc (mc_L_type pc) := rfl
theorem mk_L_make (pc : Nat) : mcode 156 pc = mg 21 pc (mc_L_make pc) := rfl
theorem mk_L_link (pc : Nat) : mcode 157 pc = mg 17 pc (mc_L_link pc) := rfl
theorem mk_L_bits (pc : Nat) : mcode 158 pc = mg 17 pc (mc_L_bits pc) := rfl
theorem mk_L_find (pc : Nat) : mcode 159 pc = mg 17 pc (mc_L_find pc) := rfl
theorem mk_L_tell (pc : Nat) : mcode 160 pc = mg 19 pc (mc_L_tell pc) := rfl
theorem mk_L_law (pc : Nat) : mcode 161 pc = mg 729 pc (mc_L_law pc) := rfl
